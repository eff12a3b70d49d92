set_option maxRecDepth 20000 in
def k_X12_pole : List az_I := [
  (0, 1, .aload_n 0, []), (1, 1, .iload_n 1, []), (2, 1, .iload_n 2, []), (3, 1, .iload_n 3, []), (4, 3, .invokevirtual 261, [0, 172, 4, 13]), (7, 3, .ifCond .eq 33, []),
  (10, 2, .iload 4, []), (12, 1, .i2l, []), (13, 3, .ldc2_w 271, [18446744073709551566]), (16, 3, .ldc2_w 273, [50]), (19, 3, .invokestatic 211, [0, 159, 3, 999]), (22, 3, .ifCond .eq 18, []),
  (25, 2, .iload 5, []), (27, 1, .i2l, []), (28, 3, .ldc2_w 271, [18446744073709551566]), (31, 3, .ldc2_w 273, [50]), (34, 3, .invokestatic 211, [0, 159, 3, 999]), (37, 3, .ifCond .ne 5, []),
  (40, 1, .iconst (-1), []), (41, 1, .ireturn, []), (42, 1, .aload_n 0, []), (43, 1, .iconst 2, []), (44, 1, .iload_n 1, []), (45, 1, .iload_n 2, []),
  (46, 1, .iload_n 3, []), (47, 3, .invokevirtual 265, [0, 173, 5, 13]), (50, 2, .istore 6, []), (52, 1, .aload_n 0, []), (53, 3, .getfield 43, [13, 18]), (56, 2, .iload 6, []),
  (58, 2, .iload 4, []), (60, 1, .iastore, []), (61, 1, .aload_n 0, []), (62, 3, .getfield 46, [13, 19]), (65, 2, .iload 6, []), (67, 2, .iload 5, []),
  (69, 1, .iastore, []), (70, 2, .iload 6, []), (72, 1, .ireturn, [])]
set_option maxRecDepth 20000 in
def k_X12_raise : List az_I := [
  (0, 1, .aload_n 0, []), (1, 1, .iload_n 1, []), (2, 3, .invokevirtual 275, [0, 164, 2, 13]), (5, 3, .ifCond .eq 53, []), (8, 1, .iload_n 2, []), (9, 1, .i2l, []),
  (10, 1, .aload_n 0, []), (11, 3, .getfield 37, [13, 16]), (14, 1, .iload_n 1, []), (15, 1, .iaload, []), (16, 1, .i2l, []), (17, 3, .ldc2_w 209, [3599]),
  (20, 3, .invokestatic 211, [0, 159, 3, 999]), (23, 3, .ifCond .eq 35, []), (26, 1, .iload_n 3, []), (27, 1, .i2l, []), (28, 1, .lconst 0, []), (29, 3, .ldc2_w 252, [60]),
  (32, 3, .invokestatic 211, [0, 159, 3, 999]), (35, 3, .ifCond .eq 23, []), (38, 1, .aload_n 0, []), (39, 3, .getfield 61, [13, 24]), (42, 1, .iload_n 1, []), (43, 1, .iaload, []),
  (44, 3, .ifCond .ge 14, []), (47, 1, .aload_n 0, []), (48, 3, .getfield 49, [13, 20]), (51, 1, .iload_n 1, []), (52, 1, .iaload, []), (53, 2, .bipush 40, []),
  (55, 3, .if_icmp .ne 5, []), (58, 1, .iconst (-1), []), (59, 1, .ireturn, []), (60, 1, .aload_n 0, []), (61, 1, .iload_n 1, []), (62, 1, .iload_n 2, []),
  (63, 1, .iload_n 3, []), (64, 3, .invokevirtual 257, [0, 174, 4, 13]), (67, 1, .aload_n 0, []), (68, 3, .getfield 49, [13, 20]), (71, 1, .iload_n 1, []), (72, 1, .iaload, []),
  (73, 1, .ireturn, [])]
set_option maxRecDepth 20000 in
def k_X12_fell : List az_I := [
  (0, 1, .aload_n 0, []), (1, 1, .iload_n 1, []), (2, 3, .invokevirtual 275, [0, 164, 2, 13]), (5, 3, .ifCond .eq 32, []), (8, 1, .iload_n 2, []), (9, 1, .i2l, []),
  (10, 1, .aload_n 0, []), (11, 3, .getfield 37, [13, 16]), (14, 1, .iload_n 1, []), (15, 1, .iaload, []), (16, 1, .i2l, []), (17, 1, .aload_n 0, []),
  (18, 3, .getfield 225, [13, 3]), (21, 1, .i2l, []), (22, 3, .invokestatic 211, [0, 159, 3, 999]), (25, 3, .ifCond .eq 12, []), (28, 1, .aload_n 0, []), (29, 3, .getfield 61, [13, 24]),
  (32, 1, .iload_n 1, []), (33, 1, .iaload, []), (34, 3, .ifCond .lt 5, []), (37, 1, .iconst 0, []), (38, 1, .ireturn, []), (39, 1, .aload_n 0, []),
  (40, 3, .getfield 61, [13, 24]), (43, 1, .iload_n 1, []), (44, 1, .iload_n 2, []), (45, 1, .iastore, []), (46, 1, .aload_n 0, []), (47, 3, .getfield 64, [13, 25]),
  (50, 1, .iload_n 1, []), (51, 1, .aload_n 0, []), (52, 3, .getfield 225, [13, 3]), (55, 1, .iastore, []), (56, 1, .iconst 1, []), (57, 1, .ireturn, [])]
set_option maxRecDepth 20000 in
def k_X12_entryFor : List az_I := [
  (0, 1, .iconst (-1), []), (1, 2, .istore 4, []), (3, 2, .bipush 41, []), (5, 1, .iload_n 1, []), (6, 1, .imul, []), (7, 2, .istore 5, []),
  (9, 2, .iload 5, []), (11, 2, .bipush 41, []), (13, 1, .iload_n 1, []), (14, 1, .imul, []), (15, 1, .aload_n 0, []), (16, 3, .getfield 49, [13, 20]),
  (19, 1, .iload_n 1, []), (20, 1, .iaload, []), (21, 1, .iadd, []), (22, 3, .if_icmp .ge 62, []), (25, 1, .aload_n 0, []), (26, 3, .getfield 58, [13, 23]),
  (29, 2, .iload 5, []), (31, 1, .iaload, []), (32, 1, .iload_n 3, []), (33, 3, .if_icmp .gt 41, []), (36, 1, .aload_n 0, []), (37, 3, .getfield 52, [13, 21]),
  (40, 2, .iload 5, []), (42, 1, .iaload, []), (43, 1, .iload_n 2, []), (44, 3, .if_icmp .gt 30, []), (47, 2, .iload 4, []), (49, 3, .ifCond .lt 20, []),
  (52, 1, .aload_n 0, []), (53, 3, .getfield 52, [13, 21]), (56, 2, .iload 5, []), (58, 1, .iaload, []), (59, 1, .aload_n 0, []), (60, 3, .getfield 52, [13, 21]),
  (63, 2, .iload 4, []), (65, 1, .iaload, []), (66, 3, .if_icmp .lt 8, []), (69, 2, .iload 5, []), (71, 3, .goto 5, []), (74, 2, .iload 4, []),
  (76, 2, .istore 4, []), (78, 3, .iinc 5 1, []), (81, 3, .goto (-72), []), (84, 2, .iload 4, []), (86, 1, .ireturn, [])]
set_option maxRecDepth 20000 in
def k_X12_heightOf : List az_I := [
  (0, 1, .aload_n 0, []), (1, 3, .getfield 37, [13, 16]), (4, 1, .iload_n 1, []), (5, 1, .iaload, []), (6, 1, .iload_n 2, []), (7, 3, .if_icmp .gt 42, []),
  (10, 1, .aload_n 0, []), (11, 3, .getfield 37, [13, 16]), (14, 1, .iload_n 1, []), (15, 1, .iaload, []), (16, 1, .iload_n 3, []), (17, 3, .if_icmp .gt 32, []),
  (20, 1, .aload_n 0, []), (21, 3, .getfield 61, [13, 24]), (24, 1, .iload_n 1, []), (25, 1, .iaload, []), (26, 3, .ifCond .lt 25, []), (29, 1, .aload_n 0, []),
  (30, 3, .getfield 61, [13, 24]), (33, 1, .iload_n 1, []), (34, 1, .iaload, []), (35, 1, .iload_n 2, []), (36, 3, .if_icmp .gt 15, []), (39, 1, .aload_n 0, []),
  (40, 3, .getfield 64, [13, 25]), (43, 1, .iload_n 1, []), (44, 1, .iaload, []), (45, 1, .iload_n 3, []), (46, 3, .if_icmp .gt 5, []), (49, 1, .iconst (-1), []),
  (50, 1, .ireturn, []), (51, 1, .aload_n 0, []), (52, 1, .iload_n 1, []), (53, 1, .iload_n 2, []), (54, 1, .iload_n 3, []), (55, 3, .invokevirtual 278, [0, 180, 4, 13]),
  (58, 2, .istore 4, []), (60, 1, .aload_n 0, []), (61, 3, .getfield 55, [13, 22]), (64, 2, .iload 4, []), (66, 1, .iaload, []), (67, 1, .aload_n 0, []),
  (68, 3, .getfield 28, [13, 13]), (71, 1, .iload_n 1, []), (72, 1, .iaload, []), (73, 1, .iconst 1, []), (74, 3, .if_icmp .ne 22, []), (77, 1, .iload_n 2, []),
  (78, 1, .aload_n 0, []), (79, 3, .getfield 52, [13, 21]), (82, 2, .iload 4, []), (84, 1, .iaload, []), (85, 1, .isub, []), (86, 1, .aload_n 0, []),
  (87, 3, .getfield 40, [13, 17]), (90, 1, .iload_n 1, []), (91, 1, .iaload, []), (92, 1, .idiv, []), (93, 3, .goto 4, []), (96, 1, .iconst 0, []),
  (97, 1, .iadd, []), (98, 2, .istore 5, []), (100, 2, .iload 5, []), (102, 2, .bipush 60, []), (104, 3, .if_icmp .le 8, []), (107, 2, .bipush 60, []),
  (109, 3, .goto 5, []), (112, 2, .iload 5, []), (114, 1, .ireturn, [])]
set_option maxRecDepth 20000 in
def k_X12_height : List az_I := [
  (0, 1, .aload_n 0, []), (1, 1, .iload_n 1, []), (2, 3, .invokevirtual 275, [0, 164, 2, 13]), (5, 3, .ifCond .eq 27, []), (8, 1, .iload_n 2, []), (9, 3, .invokestatic 239, [0, 160, 1, 999]),
  (12, 3, .ifCond .eq 20, []), (15, 1, .iload_n 3, []), (16, 3, .invokestatic 239, [0, 160, 1, 999]), (19, 3, .ifCond .eq 13, []), (22, 1, .aload_n 0, []), (23, 1, .iload_n 1, []),
  (24, 1, .iload_n 2, []), (25, 1, .iload_n 3, []), (26, 3, .invokevirtual 282, [0, 181, 4, 13]), (29, 3, .goto 4, []), (32, 1, .iconst (-1), []), (33, 1, .ireturn, [])]
set_option maxRecDepth 20000 in
def k_X12_isOpen : List az_I := [
  (0, 1, .iconst 1, []), (1, 2, .istore 4, []), (3, 1, .iconst 0, []), (4, 2, .istore 5, []), (6, 2, .iload 5, []), (8, 1, .aload_n 0, []),
  (9, 3, .getfield 220, [13, 12]), (12, 3, .if_icmp .ge 43, []), (15, 2, .iload 4, []), (17, 3, .ifCond .eq 29, []), (20, 1, .aload_n 0, []), (21, 3, .getfield 31, [13, 14]),
  (24, 2, .iload 5, []), (26, 1, .iaload, []), (27, 1, .iload_n 1, []), (28, 3, .if_icmp .ne 14, []), (31, 1, .aload_n 0, []), (32, 2, .iload 5, []),
  (34, 1, .iload_n 2, []), (35, 1, .iload_n 3, []), (36, 3, .invokevirtual 282, [0, 181, 4, 13]), (39, 3, .ifCond .ge 7, []), (42, 1, .iconst 1, []), (43, 3, .goto 4, []),
  (46, 1, .iconst 0, []), (47, 2, .istore 4, []), (49, 3, .iinc 5 1, []), (52, 3, .goto (-46), []), (55, 2, .iload 4, []), (57, 1, .ireturn, [])]
set_option maxRecDepth 20000 in
def k_X12_below : List az_I := [
  (0, 1, .iload_n 0, []), (1, 3, .ifCond .lt 10, []), (4, 1, .iload_n 0, []), (5, 2, .bipush 100, []), (7, 1, .idiv, []), (8, 3, .goto 11, []),
  (11, 2, .bipush 99, []), (13, 1, .iload_n 0, []), (14, 1, .isub, []), (15, 2, .bipush 100, []), (17, 1, .idiv, []), (18, 1, .ineg, []),
  (19, 1, .ireturn, [])]
set_option maxRecDepth 20000 in
def k_X12_pointOf : List az_I := [
  (0, 2, .bipush 12, []), (2, 2, .iload 4, []), (4, 3, .invokestatic 285, [0, 165, 1, 999]), (7, 1, .imul, []), (8, 2, .iload 5, []), (10, 1, .iadd, []),
  (11, 2, .istore 7, []), (13, 2, .bipush 100, []), (15, 1, .iload_n 1, []), (16, 1, .aload_n 0, []), (17, 3, .getfield 200, [13, 0]), (20, 1, .irem, []),
  (21, 1, .imul, []), (22, 2, .bipush 50, []), (24, 1, .iadd, []), (25, 2, .iload 6, []), (27, 1, .aload_n 0, []), (28, 3, .getfield 7, [13, 4]),
  (31, 2, .iload 7, []), (33, 1, .iaload, []), (34, 1, .iload_n 2, []), (35, 1, .iadd, []), (36, 1, .imul, []), (37, 1, .iadd, []),
  (38, 3, .invokestatic 289, [0, 184, 1, 999]), (41, 2, .istore 8, []), (43, 2, .bipush 100, []), (45, 1, .iload_n 1, []), (46, 1, .aload_n 0, []), (47, 3, .getfield 200, [13, 0]),
  (50, 1, .idiv, []), (51, 1, .imul, []), (52, 2, .bipush 50, []), (54, 1, .iadd, []), (55, 2, .iload 6, []), (57, 1, .aload_n 0, []),
  (58, 3, .getfield 13, [13, 5]), (61, 2, .iload 7, []), (63, 1, .iaload, []), (64, 1, .iload_n 3, []), (65, 1, .iadd, []), (66, 1, .imul, []),
  (67, 1, .iadd, []), (68, 3, .invokestatic 289, [0, 184, 1, 999]), (71, 2, .istore 9, []), (73, 2, .iload 8, []), (75, 1, .i2l, []), (76, 1, .lconst 0, []),
  (77, 1, .aload_n 0, []), (78, 3, .getfield 200, [13, 0]), (81, 1, .iconst 1, []), (82, 1, .isub, []), (83, 1, .i2l, []), (84, 3, .invokestatic 211, [0, 159, 3, 999]),
  (87, 3, .ifCond .eq 33, []), (90, 2, .iload 9, []), (92, 1, .i2l, []), (93, 1, .lconst 0, []), (94, 1, .aload_n 0, []), (95, 3, .getfield 203, [13, 1]),
  (98, 1, .iconst 1, []), (99, 1, .isub, []), (100, 1, .i2l, []), (101, 3, .invokestatic 211, [0, 159, 3, 999]), (104, 3, .ifCond .eq 16, []), (107, 2, .iload 9, []),
  (109, 1, .aload_n 0, []), (110, 3, .getfield 200, [13, 0]), (113, 1, .imul, []), (114, 2, .iload 8, []), (116, 1, .iadd, []), (117, 3, .goto 4, []),
  (120, 1, .iconst (-1), []), (121, 1, .ireturn, [])]
set_option maxRecDepth 20000 in
def k_X12_shades : List az_I := [
  (0, 1, .iconst 0, []), (1, 2, .istore 7, []), (3, 2, .iload 7, []), (5, 1, .aload_n 0, []), (6, 3, .getfield 206, [13, 2]), (9, 3, .if_icmp .ge 17, []),
  (12, 1, .aload_n 0, []), (13, 3, .getfield 154, [13, 71]), (16, 2, .iload 7, []), (18, 1, .iconst 0, []), (19, 1, .bastore, []), (20, 3, .iinc 7 1, []),
  (23, 3, .goto (-20), []), (26, 1, .iconst 1, []), (27, 2, .istore 7, []), (29, 2, .iload 7, []), (31, 2, .iload 4, []), (33, 3, .if_icmp .gt 54, []),
  (36, 1, .aload_n 0, []), (37, 2, .iload 5, []), (39, 2, .iload 6, []), (41, 3, .invokevirtual 242, [0, 168, 3, 13]), (44, 3, .ifCond .ne 43, []), (47, 1, .aload_n 0, []),
  (48, 1, .iload_n 1, []), (49, 1, .iload_n 2, []), (50, 1, .iload_n 3, []), (51, 2, .iload 5, []), (53, 2, .iload 6, []), (55, 2, .iload 7, []),
  (57, 3, .invokevirtual 292, [0, 185, 7, 13]), (60, 2, .istore 8, []), (62, 2, .iload 8, []), (64, 3, .ifCond .lt 17, []), (67, 2, .iload 8, []), (69, 1, .iload_n 1, []),
  (70, 3, .if_icmp .eq 11, []), (73, 1, .aload_n 0, []), (74, 3, .getfield 154, [13, 71]), (77, 2, .iload 8, []), (79, 1, .iconst 1, []), (80, 1, .bastore, []),
  (81, 3, .iinc 7 1, []), (84, 3, .goto (-55), []), (87, 1, .return_, [])]
set_option maxRecDepth 20000 in
def k_X12_looks : List az_I := [
  (0, 1, .iconst 0, []), (1, 2, .istore 4, []), (3, 2, .iload 4, []), (5, 1, .aload_n 0, []), (6, 3, .getfield 206, [13, 2]), (9, 3, .if_icmp .ge 33, []),
  (12, 1, .aload_n 0, []), (13, 3, .getfield 158, [13, 72]), (16, 2, .iload 4, []), (18, 1, .iconst 0, []), (19, 1, .iastore, []), (20, 1, .aload_n 0, []),
  (21, 3, .getfield 161, [13, 73]), (24, 2, .iload 4, []), (26, 1, .iconst 0, []), (27, 1, .iastore, []), (28, 1, .aload_n 0, []), (29, 3, .getfield 164, [13, 74]),
  (32, 2, .iload 4, []), (34, 1, .iconst 1, []), (35, 1, .bastore, []), (36, 3, .iinc 4 1, []), (39, 3, .goto (-36), []), (42, 1, .iconst 0, []),
  (43, 2, .istore 4, []), (45, 2, .iload 4, []), (47, 1, .aload_n 0, []), (48, 3, .getfield 220, [13, 12]), (51, 3, .if_icmp .ge 47, []), (54, 1, .aload_n 0, []),
  (55, 3, .getfield 167, [13, 75]), (58, 2, .iload 4, []), (60, 1, .aload_n 0, []), (61, 2, .iload 4, []), (63, 1, .iload_n 1, []), (64, 1, .iload_n 3, []),
  (65, 3, .invokevirtual 282, [0, 181, 4, 13]), (68, 1, .iastore, []), (69, 1, .aload_n 0, []), (70, 3, .getfield 167, [13, 75]), (73, 2, .iload 4, []), (75, 1, .iaload, []),
  (76, 3, .ifCond .lt 16, []), (79, 1, .aload_n 0, []), (80, 3, .getfield 164, [13, 74]), (83, 1, .aload_n 0, []), (84, 3, .getfield 31, [13, 14]), (87, 2, .iload 4, []),
  (89, 1, .iaload, []), (90, 1, .iconst 0, []), (91, 1, .bastore, []), (92, 3, .iinc 4 1, []), (95, 3, .goto (-50), []), (98, 1, .iconst 0, []),
  (99, 2, .istore 4, []), (101, 2, .iload 4, []), (103, 1, .aload_n 0, []), (104, 3, .getfield 220, [13, 12]), (107, 3, .if_icmp .ge 128, []), (110, 1, .aload_n 0, []),
  (111, 3, .getfield 167, [13, 75]), (114, 2, .iload 4, []), (116, 1, .iaload, []), (117, 3, .ifCond .le 112, []), (120, 1, .aload_n 0, []), (121, 1, .aload_n 0, []),
  (122, 3, .getfield 31, [13, 14]), (125, 2, .iload 4, []), (127, 1, .iaload, []), (128, 1, .aload_n 0, []), (129, 3, .getfield 43, [13, 18]), (132, 2, .iload 4, []),
  (134, 1, .iaload, []), (135, 1, .aload_n 0, []), (136, 3, .getfield 46, [13, 19]), (139, 2, .iload 4, []), (141, 1, .iaload, []), (142, 1, .aload_n 0, []),
  (143, 3, .getfield 167, [13, 75]), (146, 2, .iload 4, []), (148, 1, .iaload, []), (149, 1, .iload_n 1, []), (150, 1, .iload_n 2, []), (151, 3, .invokevirtual 296, [0, 186, 7, 13]),
  (154, 1, .iconst 0, []), (155, 2, .istore 5, []), (157, 2, .iload 5, []), (159, 1, .aload_n 0, []), (160, 3, .getfield 206, [13, 2]), (163, 3, .if_icmp .ge 66, []),
  (166, 1, .aload_n 0, []), (167, 3, .getfield 154, [13, 71]), (170, 2, .iload 5, []), (172, 1, .baload, []), (173, 3, .ifCond .eq 50, []), (176, 1, .aload_n 0, []),
  (177, 3, .getfield 164, [13, 74]), (180, 2, .iload 5, []), (182, 1, .baload, []), (183, 3, .ifCond .eq 40, []), (186, 1, .aload_n 0, []), (187, 3, .getfield 161, [13, 73]),
  (190, 2, .iload 5, []), (192, 1, .iaload, []), (193, 2, .bipush 12, []), (195, 3, .if_icmp .ge 28, []), (198, 1, .aload_n 0, []), (199, 3, .getfield 158, [13, 72]),
  (202, 2, .iload 5, []), (204, 1, .dup2, []), (205, 1, .iaload, []), (206, 1, .iconst 1, []), (207, 2, .iload 4, []), (209, 1, .ishl, []),
  (210, 1, .ior, []), (211, 1, .iastore, []), (212, 1, .aload_n 0, []), (213, 3, .getfield 161, [13, 73]), (216, 2, .iload 5, []), (218, 1, .dup2, []),
  (219, 1, .iaload, []), (220, 1, .iconst 1, []), (221, 1, .iadd, []), (222, 1, .iastore, []), (223, 3, .iinc 5 1, []), (226, 3, .goto (-69), []),
  (229, 3, .iinc 4 1, []), (232, 3, .goto (-131), []), (235, 1, .return_, [])]
set_option maxRecDepth 20000 in
def k_X12_isAsked : List az_I := [
  (0, 1, .iload_n 1, []), (1, 3, .invokestatic 239, [0, 160, 1, 999]), (4, 3, .ifCond .eq 21, []), (7, 1, .iload_n 2, []), (8, 3, .invokestatic 228, [0, 161, 1, 999]), (11, 3, .ifCond .eq 14, []),
  (14, 1, .iload_n 3, []), (15, 3, .invokestatic 239, [0, 160, 1, 999]), (18, 3, .ifCond .eq 7, []), (21, 1, .iconst 1, []), (22, 3, .goto 4, []), (25, 1, .iconst 0, []),
  (26, 1, .ireturn, [])]
set_option maxRecDepth 20000 in
def k_X12_shaded : List az_I := [
  (0, 1, .aload_n 0, []), (1, 1, .iload_n 1, []), (2, 3, .invokevirtual 249, [0, 162, 2, 13]), (5, 3, .ifCond .eq 14, []), (8, 1, .aload_n 0, []), (9, 1, .iload_n 2, []),
  (10, 1, .iload_n 3, []), (11, 2, .iload 4, []), (13, 3, .invokevirtual 300, [0, 188, 4, 13]), (16, 3, .ifCond .ne 5, []), (19, 1, .iconst (-1), []), (20, 1, .ireturn, []),
  (21, 1, .aload_n 0, []), (22, 1, .iload_n 2, []), (23, 1, .iload_n 3, []), (24, 2, .iload 4, []), (26, 3, .invokevirtual 303, [0, 187, 4, 13]), (29, 1, .aload_n 0, []),
  (30, 3, .getfield 158, [13, 72]), (33, 1, .iload_n 1, []), (34, 1, .iaload, []), (35, 1, .ireturn, [])]
set_option maxRecDepth 20000 in
def k_X12_shadow : List az_I := [
  (0, 1, .aload_n 0, []), (1, 1, .iload_n 1, []), (2, 3, .invokevirtual 275, [0, 164, 2, 13]), (5, 3, .ifCond .eq 14, []), (8, 1, .aload_n 0, []), (9, 1, .iload_n 2, []),
  (10, 1, .iload_n 3, []), (11, 2, .iload 4, []), (13, 3, .invokevirtual 300, [0, 188, 4, 13]), (16, 3, .ifCond .ne 5, []), (19, 1, .iconst (-1), []), (20, 1, .ireturn, []),
  (21, 1, .aload_n 0, []), (22, 1, .iload_n 2, []), (23, 1, .iload_n 3, []), (24, 2, .iload 4, []), (26, 3, .invokevirtual 303, [0, 187, 4, 13]), (29, 1, .aload_n 0, []),
  (30, 1, .aload_n 0, []), (31, 3, .getfield 31, [13, 14]), (34, 1, .iload_n 1, []), (35, 1, .iaload, []), (36, 1, .aload_n 0, []), (37, 3, .getfield 43, [13, 18]),
  (40, 1, .iload_n 1, []), (41, 1, .iaload, []), (42, 1, .aload_n 0, []), (43, 3, .getfield 46, [13, 19]), (46, 1, .iload_n 1, []), (47, 1, .iaload, []),
  (48, 1, .aload_n 0, []), (49, 3, .getfield 167, [13, 75]), (52, 1, .iload_n 1, []), (53, 1, .iaload, []), (54, 1, .iload_n 2, []), (55, 1, .iload_n 3, []),
  (56, 3, .invokevirtual 296, [0, 186, 7, 13]), (59, 1, .iconst 0, []), (60, 2, .istore 5, []), (62, 1, .iconst 0, []), (63, 2, .istore 6, []), (65, 2, .iload 6, []),
  (67, 1, .aload_n 0, []), (68, 3, .getfield 206, [13, 2]), (71, 3, .if_icmp .ge 39, []), (74, 2, .iload 5, []), (76, 1, .aload_n 0, []), (77, 3, .getfield 154, [13, 71]),
  (80, 2, .iload 6, []), (82, 1, .baload, []), (83, 3, .ifCond .eq 17, []), (86, 1, .aload_n 0, []), (87, 3, .getfield 164, [13, 74]), (90, 2, .iload 6, []),
  (92, 1, .baload, []), (93, 3, .ifCond .eq 7, []), (96, 1, .iconst 1, []), (97, 3, .goto 4, []), (100, 1, .iconst 0, []), (101, 1, .iadd, []),
  (102, 2, .istore 5, []), (104, 3, .iinc 6 1, []), (107, 3, .goto (-42), []), (110, 2, .iload 5, []), (112, 1, .ireturn, [])]
set_option maxRecDepth 20000 in
def k_X12_grant : List az_I := [
  (0, 1, .aload_n 0, []), (1, 1, .iload_n 1, []), (2, 3, .invokevirtual 246, [0, 163, 2, 13]), (5, 3, .ifCond .eq 54, []), (8, 1, .aload_n 0, []), (9, 1, .iload_n 2, []),
  (10, 3, .invokevirtual 246, [0, 163, 2, 13]), (13, 3, .ifCond .eq 46, []), (16, 1, .iload_n 1, []), (17, 1, .iload_n 2, []), (18, 3, .if_icmp .eq 41, []), (21, 1, .aload_n 0, []),
  (22, 1, .iload_n 3, []), (23, 3, .invokevirtual 275, [0, 164, 2, 13]), (26, 3, .ifCond .eq 33, []), (29, 2, .iload 4, []), (31, 1, .i2l, []), (32, 1, .lconst 0, []),
  (33, 3, .ldc2_w 306, [255]), (36, 3, .invokestatic 211, [0, 159, 3, 999]), (39, 3, .ifCond .eq 20, []), (42, 2, .iload 5, []), (44, 1, .i2l, []), (45, 1, .lconst 0, []),
  (46, 3, .ldc2_w 306, [255]), (49, 3, .invokestatic 211, [0, 159, 3, 999]), (52, 3, .ifCond .eq 7, []), (55, 1, .iconst 1, []), (56, 3, .goto 4, []), (59, 1, .iconst 0, []),
  (60, 2, .istore 9, []), (62, 2, .iload 9, []), (64, 3, .ifCond .eq 71, []), (67, 2, .iload 4, []), (69, 2, .bipush 16, []), (71, 1, .idiv, []),
  (72, 3, .invokestatic 228, [0, 161, 1, 999]), (75, 3, .ifCond .eq 60, []), (78, 2, .iload 4, []), (80, 2, .bipush 16, []), (82, 1, .irem, []), (83, 1, .i2l, []),
  (84, 2, .iload 4, []), (86, 2, .bipush 16, []), (88, 1, .idiv, []), (89, 1, .i2l, []), (90, 3, .ldc2_w 215, [11]), (93, 3, .invokestatic 211, [0, 159, 3, 999]),
  (96, 3, .ifCond .eq 39, []), (99, 2, .iload 5, []), (101, 2, .bipush 16, []), (103, 1, .idiv, []), (104, 1, .i2l, []), (105, 1, .lconst 0, []),
  (106, 3, .ldc2_w 215, [11]), (109, 3, .invokestatic 211, [0, 159, 3, 999]), (112, 3, .ifCond .eq 23, []), (115, 2, .iload 5, []), (117, 2, .bipush 16, []), (119, 1, .irem, []),
  (120, 1, .i2l, []), (121, 1, .lconst 0, []), (122, 3, .ldc2_w 215, [11]), (125, 3, .invokestatic 211, [0, 159, 3, 999]), (128, 3, .ifCond .eq 7, []), (131, 1, .iconst 1, []),
  (132, 3, .goto 4, []), (135, 1, .iconst 0, []), (136, 2, .istore 9, []), (138, 2, .iload 9, []), (140, 3, .ifCond .eq 48, []), (143, 2, .iload 6, []),
  (145, 3, .invokestatic 239, [0, 160, 1, 999]), (148, 3, .ifCond .eq 40, []), (151, 2, .iload 7, []), (153, 1, .i2l, []), (154, 2, .iload 6, []), (156, 1, .i2l, []),
  (157, 3, .ldc2_w 209, [3599]), (160, 3, .invokestatic 211, [0, 159, 3, 999]), (163, 3, .ifCond .eq 25, []), (166, 2, .iload 8, []), (168, 1, .i2l, []), (169, 1, .lconst 0, []),
  (170, 3, .ldc2_w 308, [2]), (173, 3, .invokestatic 211, [0, 159, 3, 999]), (176, 3, .ifCond .eq 12, []), (179, 1, .aload_n 0, []), (180, 3, .getfield 310, [13, 27]), (183, 2, .bipush 60, []),
  (185, 3, .if_icmp .ne 5, []), (188, 1, .iconst (-1), []), (189, 1, .ireturn, []), (190, 1, .aload_n 0, []), (191, 3, .getfield 70, [13, 28]), (194, 1, .aload_n 0, []),
  (195, 3, .getfield 310, [13, 27]), (198, 1, .iload_n 1, []), (199, 1, .iastore, []), (200, 1, .aload_n 0, []), (201, 3, .getfield 73, [13, 29]), (204, 1, .aload_n 0, []),
  (205, 3, .getfield 310, [13, 27]), (208, 1, .iload_n 2, []), (209, 1, .iastore, []), (210, 1, .aload_n 0, []), (211, 3, .getfield 76, [13, 30]), (214, 1, .aload_n 0, []),
  (215, 3, .getfield 310, [13, 27]), (218, 1, .iload_n 3, []), (219, 1, .iastore, []), (220, 1, .aload_n 0, []), (221, 3, .getfield 79, [13, 31]), (224, 1, .aload_n 0, []),
  (225, 3, .getfield 310, [13, 27]), (228, 2, .iload 4, []), (230, 2, .bipush 16, []), (232, 1, .idiv, []), (233, 1, .iastore, []), (234, 1, .aload_n 0, []),
  (235, 3, .getfield 82, [13, 32]), (238, 1, .aload_n 0, []), (239, 3, .getfield 310, [13, 27]), (242, 2, .iload 4, []), (244, 2, .bipush 16, []), (246, 1, .irem, []),
  (247, 1, .iastore, []), (248, 1, .aload_n 0, []), (249, 3, .getfield 85, [13, 33]), (252, 1, .aload_n 0, []), (253, 3, .getfield 310, [13, 27]), (256, 2, .iload 5, []),
  (258, 2, .bipush 16, []), (260, 1, .idiv, []), (261, 1, .iastore, []), (262, 1, .aload_n 0, []), (263, 3, .getfield 88, [13, 34]), (266, 1, .aload_n 0, []),
  (267, 3, .getfield 310, [13, 27]), (270, 2, .iload 5, []), (272, 2, .bipush 16, []), (274, 1, .irem, []), (275, 1, .iastore, []), (276, 1, .aload_n 0, []),
  (277, 3, .getfield 91, [13, 35]), (280, 1, .aload_n 0, []), (281, 3, .getfield 310, [13, 27]), (284, 2, .iload 6, []), (286, 1, .iastore, []), (287, 1, .aload_n 0, []),
  (288, 3, .getfield 94, [13, 36]), (291, 1, .aload_n 0, []), (292, 3, .getfield 310, [13, 27]), (295, 2, .iload 7, []), (297, 1, .iastore, []), (298, 1, .aload_n 0, []),
  (299, 3, .getfield 97, [13, 37]), (302, 1, .aload_n 0, []), (303, 3, .getfield 310, [13, 27]), (306, 2, .iload 8, []), (308, 1, .iastore, []), (309, 1, .aload_n 0, []),
  (310, 3, .getfield 100, [13, 38]), (313, 1, .aload_n 0, []), (314, 3, .getfield 310, [13, 27]), (317, 1, .aload_n 0, []), (318, 3, .getfield 225, [13, 3]), (321, 1, .iastore, []),
  (322, 1, .aload_n 0, []), (323, 1, .dup, []), (324, 3, .getfield 310, [13, 27]), (327, 1, .iconst 1, []), (328, 1, .iadd, []), (329, 3, .putfield 310, [13, 27]),
  (332, 1, .aload_n 0, []), (333, 3, .getfield 310, [13, 27]), (336, 1, .iconst 1, []), (337, 1, .isub, []), (338, 1, .ireturn, [])]
set_option maxRecDepth 20000 in
def k_X12_holdsOn : List az_I := [
  (0, 1, .iload_n 2, []), (1, 3, .invokestatic 285, [0, 165, 1, 999]), (4, 2, .istore 5, []), (6, 1, .aload_n 0, []), (7, 3, .getfield 85, [13, 33]), (10, 1, .iload_n 1, []),
  (11, 1, .iaload, []), (12, 1, .aload_n 0, []), (13, 3, .getfield 88, [13, 34]), (16, 1, .iload_n 1, []), (17, 1, .iaload, []), (18, 3, .if_icmp .gt 26, []),
  (21, 2, .iload 5, []), (23, 1, .i2l, []), (24, 1, .aload_n 0, []), (25, 3, .getfield 85, [13, 33]), (28, 1, .iload_n 1, []), (29, 1, .iaload, []),
  (30, 1, .i2l, []), (31, 1, .aload_n 0, []), (32, 3, .getfield 88, [13, 34]), (35, 1, .iload_n 1, []), (36, 1, .iaload, []), (37, 1, .i2l, []),
  (38, 3, .invokestatic 211, [0, 159, 3, 999]), (41, 3, .goto 30, []), (44, 2, .iload 5, []), (46, 1, .aload_n 0, []), (47, 3, .getfield 85, [13, 33]), (50, 1, .iload_n 1, []),
  (51, 1, .iaload, []), (52, 3, .if_icmp .ge 14, []), (55, 2, .iload 5, []), (57, 1, .aload_n 0, []), (58, 3, .getfield 88, [13, 34]), (61, 1, .iload_n 1, []),
  (62, 1, .iaload, []), (63, 3, .if_icmp .gt 7, []), (66, 1, .iconst 1, []), (67, 3, .goto 4, []), (70, 1, .iconst 0, []), (71, 2, .istore 6, []),
  (73, 1, .aload_n 0, []), (74, 3, .getfield 100, [13, 38]), (77, 1, .iload_n 1, []), (78, 1, .iaload, []), (79, 2, .iload 4, []), (81, 3, .if_icmp .gt 30, []),
  (84, 1, .iload_n 3, []), (85, 1, .i2l, []), (86, 1, .aload_n 0, []), (87, 3, .getfield 79, [13, 31]), (90, 1, .iload_n 1, []), (91, 1, .iaload, []),
  (92, 1, .i2l, []), (93, 1, .aload_n 0, []), (94, 3, .getfield 82, [13, 32]), (97, 1, .iload_n 1, []), (98, 1, .iaload, []), (99, 1, .i2l, []),
  (100, 3, .invokestatic 211, [0, 159, 3, 999]), (103, 3, .ifCond .eq 8, []), (106, 2, .iload 6, []), (108, 3, .ifCond .ne 5, []), (111, 1, .iconst 0, []), (112, 1, .ireturn, []),
  (113, 1, .aload_n 0, []), (114, 3, .getfield 70, [13, 28]), (117, 1, .iload_n 1, []), (118, 1, .iaload, []), (119, 2, .istore 7, []), (121, 1, .aload_n 0, []),
  (122, 3, .getfield 97, [13, 37]), (125, 1, .iload_n 1, []), (126, 1, .iaload, []), (127, 25, .lookupswitch 61 #[(0, 25), (1, 41)], []), (152, 1, .iload_n 2, []), (153, 1, .aload_n 0, []),
  (154, 3, .getfield 91, [13, 35]), (157, 1, .iload_n 1, []), (158, 1, .iaload, []), (159, 3, .if_icmp .lt 7, []), (162, 1, .iconst 1, []), (163, 3, .goto 4, []),
  (166, 1, .iconst 0, []), (167, 1, .ireturn, []), (168, 1, .iload_n 2, []), (169, 1, .i2l, []), (170, 1, .aload_n 0, []), (171, 3, .getfield 91, [13, 35]),
  (174, 1, .iload_n 1, []), (175, 1, .iaload, []), (176, 1, .i2l, []), (177, 1, .aload_n 0, []), (178, 3, .getfield 94, [13, 36]), (181, 1, .iload_n 1, []),
  (182, 1, .iaload, []), (183, 1, .i2l, []), (184, 3, .invokestatic 211, [0, 159, 3, 999]), (187, 1, .ireturn, []), (188, 1, .aload_n 0, []), (189, 3, .getfield 22, [13, 10]),
  (192, 2, .iload 7, []), (194, 1, .iaload, []), (195, 3, .ifCond .lt 30, []), (198, 1, .aload_n 0, []), (199, 3, .getfield 25, [13, 11]), (202, 2, .iload 7, []),
  (204, 1, .iaload, []), (205, 2, .iload 4, []), (207, 3, .if_icmp .gt 18, []), (210, 1, .aload_n 0, []), (211, 3, .getfield 22, [13, 10]), (214, 2, .iload 7, []),
  (216, 1, .iaload, []), (217, 1, .iload_n 2, []), (218, 3, .if_icmp .gt 7, []), (221, 1, .iconst 1, []), (222, 3, .goto 4, []), (225, 1, .iconst 0, []),
  (226, 1, .ireturn, [])]
set_option maxRecDepth 20000 in
def k_X12_holderOf : List az_I := [
  (0, 1, .aload_n 0, []), (1, 3, .getfield 34, [13, 15]), (4, 1, .iload_n 1, []), (5, 1, .iaload, []), (6, 2, .istore 5, []), (8, 1, .iconst 0, []),
  (9, 2, .istore 6, []), (11, 2, .iload 6, []), (13, 1, .aload_n 0, []), (14, 3, .getfield 310, [13, 27]), (17, 3, .if_icmp .ge 59, []), (20, 1, .aload_n 0, []),
  (21, 3, .getfield 76, [13, 30]), (24, 2, .iload 6, []), (26, 1, .iaload, []), (27, 1, .iload_n 1, []), (28, 3, .if_icmp .ne 38, []), (31, 1, .aload_n 0, []),
  (32, 3, .getfield 70, [13, 28]), (35, 2, .iload 6, []), (37, 1, .iaload, []), (38, 2, .iload 5, []), (40, 3, .if_icmp .ne 26, []), (43, 1, .aload_n 0, []),
  (44, 2, .iload 6, []), (46, 1, .iload_n 2, []), (47, 1, .iload_n 3, []), (48, 2, .iload 4, []), (50, 3, .invokevirtual 313, [0, 192, 5, 13]), (53, 3, .ifCond .eq 13, []),
  (56, 1, .aload_n 0, []), (57, 3, .getfield 73, [13, 29]), (60, 2, .iload 6, []), (62, 1, .iaload, []), (63, 3, .goto 5, []), (66, 2, .iload 5, []),
  (68, 2, .istore 5, []), (70, 3, .iinc 6 1, []), (73, 3, .goto (-62), []), (76, 2, .iload 5, []), (78, 1, .ireturn, [])]
set_option maxRecDepth 20000 in
def k_X12_holder : List az_I := [
  (0, 1, .aload_n 0, []), (1, 1, .iload_n 1, []), (2, 3, .invokevirtual 275, [0, 164, 2, 13]), (5, 3, .ifCond .eq 25, []), (8, 1, .aload_n 0, []), (9, 1, .iload_n 2, []),
  (10, 1, .iload_n 3, []), (11, 2, .iload 4, []), (13, 3, .invokevirtual 300, [0, 188, 4, 13]), (16, 3, .ifCond .eq 14, []), (19, 1, .aload_n 0, []), (20, 1, .iload_n 1, []),
  (21, 1, .iload_n 2, []), (22, 2, .iload 4, []), (24, 3, .invokevirtual 282, [0, 181, 4, 13]), (27, 3, .ifCond .ge 7, []), (30, 1, .iconst (-1), []), (31, 3, .goto 12, []),
  (34, 1, .aload_n 0, []), (35, 1, .iload_n 1, []), (36, 1, .iload_n 2, []), (37, 1, .iload_n 3, []), (38, 2, .iload 4, []), (40, 3, .invokevirtual 317, [0, 193, 5, 13]),
  (43, 1, .ireturn, [])]
set_option maxRecDepth 20000 in
def k_X12_holds : List az_I := [
  (0, 1, .iconst 0, []), (1, 2, .istore 4, []), (3, 2, .iload 4, []), (5, 1, .aload_n 0, []), (6, 3, .getfield 220, [13, 12]), (9, 3, .if_icmp .ge 25, []),
  (12, 1, .aload_n 0, []), (13, 3, .getfield 170, [13, 76]), (16, 2, .iload 4, []), (18, 1, .aload_n 0, []), (19, 2, .iload 4, []), (21, 1, .iload_n 1, []),
  (22, 1, .iload_n 2, []), (23, 1, .iload_n 3, []), (24, 3, .invokevirtual 317, [0, 193, 5, 13]), (27, 1, .iastore, []), (28, 3, .iinc 4 1, []), (31, 3, .goto (-28), []),
  (34, 1, .return_, [])]
set_option maxRecDepth 20000 in
def k_X12_partsIn : List az_I := [
  (0, 1, .iconst 0, []), (1, 1, .istore_n 3, []), (2, 1, .iconst 0, []), (3, 2, .istore 4, []), (5, 2, .iload 4, []), (7, 1, .aload_n 0, []),
  (8, 3, .getfield 220, [13, 12]), (11, 3, .if_icmp .ge 52, []), (14, 1, .iload_n 3, []), (15, 1, .aload_n 0, []), (16, 3, .getfield 158, [13, 72]), (19, 1, .iload_n 2, []),
  (20, 1, .iaload, []), (21, 2, .iload 4, []), (23, 1, .ishr, []), (24, 1, .iconst 1, []), (25, 1, .iand, []), (26, 1, .iconst 1, []),
  (27, 3, .if_icmp .ne 27, []), (30, 1, .aload_n 0, []), (31, 3, .getfield 170, [13, 76]), (34, 2, .iload 4, []), (36, 1, .iaload, []), (37, 1, .iload_n 1, []),
  (38, 3, .if_icmp .ne 16, []), (41, 3, .sipush 27720, []), (44, 1, .aload_n 0, []), (45, 3, .getfield 161, [13, 73]), (48, 1, .iload_n 2, []), (49, 1, .iaload, []),
  (50, 1, .idiv, []), (51, 3, .goto 4, []), (54, 1, .iconst 0, []), (55, 1, .iadd, []), (56, 1, .istore_n 3, []), (57, 3, .iinc 4 1, []),
  (60, 3, .goto (-55), []), (63, 1, .iload_n 3, []), (64, 1, .ireturn, [])]
set_option maxRecDepth 20000 in
def k_X12_parts : List az_I := [
  (0, 1, .aload_n 0, []), (1, 1, .iload_n 1, []), (2, 3, .invokevirtual 246, [0, 163, 2, 13]), (5, 3, .ifCond .eq 23, []), (8, 1, .aload_n 0, []), (9, 1, .iload_n 2, []),
  (10, 3, .invokevirtual 249, [0, 162, 2, 13]), (13, 3, .ifCond .eq 15, []), (16, 1, .aload_n 0, []), (17, 1, .iload_n 3, []), (18, 2, .iload 4, []), (20, 2, .iload 5, []),
  (22, 3, .invokevirtual 300, [0, 188, 4, 13]), (25, 3, .ifCond .ne 5, []), (28, 1, .iconst (-1), []), (29, 1, .ireturn, []), (30, 1, .aload_n 0, []), (31, 1, .iload_n 3, []),
  (32, 2, .iload 4, []), (34, 2, .iload 5, []), (36, 3, .invokevirtual 303, [0, 187, 4, 13]), (39, 1, .aload_n 0, []), (40, 1, .iload_n 3, []), (41, 2, .iload 4, []),
  (43, 2, .iload 5, []), (45, 3, .invokevirtual 320, [0, 195, 4, 13]), (48, 1, .aload_n 0, []), (49, 1, .iload_n 1, []), (50, 1, .iload_n 2, []), (51, 3, .invokevirtual 323, [0, 196, 3, 13]),
  (54, 1, .ireturn, [])]
set_option maxRecDepth 20000 in
def k_X12_partsOn : List az_I := [
  (0, 1, .lconst 0, []), (1, 2, .lstore 4, []), (3, 1, .iconst 0, []), (4, 2, .istore 6, []), (6, 2, .iload 6, []), (8, 2, .bipush 12, []),
  (10, 3, .if_icmp .ge 70, []), (13, 1, .aload_n 0, []), (14, 1, .iload_n 2, []), (15, 2, .iload 6, []), (17, 1, .iload_n 3, []), (18, 3, .invokevirtual 303, [0, 187, 4, 13]),
  (21, 1, .aload_n 0, []), (22, 1, .iload_n 2, []), (23, 2, .iload 6, []), (25, 1, .iload_n 3, []), (26, 3, .invokevirtual 320, [0, 195, 4, 13]), (29, 1, .iconst 0, []),
  (30, 2, .istore 7, []), (32, 2, .iload 7, []), (34, 1, .aload_n 0, []), (35, 3, .getfield 206, [13, 2]), (38, 3, .if_icmp .ge 36, []), (41, 2, .lload 4, []),
  (43, 1, .aload_n 0, []), (44, 3, .getfield 161, [13, 73]), (47, 2, .iload 7, []), (49, 1, .iaload, []), (50, 3, .ifCond .le 14, []), (53, 1, .aload_n 0, []),
  (54, 1, .iload_n 1, []), (55, 2, .iload 7, []), (57, 3, .invokevirtual 323, [0, 196, 3, 13]), (60, 1, .i2l, []), (61, 3, .goto 4, []), (64, 1, .lconst 0, []),
  (65, 1, .ladd, []), (66, 2, .lstore 4, []), (68, 3, .iinc 7 1, []), (71, 3, .goto (-39), []), (74, 3, .iinc 6 1, []), (77, 3, .goto (-71), []),
  (80, 2, .lload 4, []), (82, 1, .lreturn, [])]
set_option maxRecDepth 20000 in
def k_X12_account : List az_I := [
  (0, 1, .aload_n 0, []), (1, 1, .iload_n 1, []), (2, 3, .invokevirtual 246, [0, 163, 2, 13]), (5, 3, .ifCond .eq 39, []), (8, 1, .iload_n 2, []), (9, 3, .invokestatic 239, [0, 160, 1, 999]),
  (12, 3, .ifCond .eq 32, []), (15, 1, .iload_n 3, []), (16, 1, .i2l, []), (17, 1, .iload_n 2, []), (18, 1, .i2l, []), (19, 3, .ldc2_w 209, [3599]),
  (22, 3, .invokestatic 211, [0, 159, 3, 999]), (25, 3, .ifCond .eq 19, []), (28, 1, .iload_n 3, []), (29, 1, .iload_n 2, []), (30, 1, .isub, []), (31, 2, .bipush 59, []),
  (33, 3, .if_icmp .gt 11, []), (36, 2, .iload 4, []), (38, 3, .invokestatic 239, [0, 160, 1, 999]), (41, 3, .ifCond .ne 7, []), (44, 3, .ldc2_w 327, [18446744073709551615]), (47, 1, .lreturn, []),
  (48, 1, .lconst 0, []), (49, 2, .lstore 5, []), (51, 1, .iload_n 2, []), (52, 2, .istore 7, []), (54, 2, .iload 7, []), (56, 1, .iload_n 3, []),
  (57, 3, .if_icmp .gt 23, []), (60, 2, .lload 5, []), (62, 1, .aload_n 0, []), (63, 1, .iload_n 1, []), (64, 2, .iload 7, []), (66, 2, .iload 4, []),
  (68, 3, .invokevirtual 329, [0, 198, 4, 13]), (71, 1, .ladd, []), (72, 2, .lstore 5, []), (74, 3, .iinc 7 1, []), (77, 3, .goto (-23), []), (80, 2, .lload 5, []),
  (82, 1, .lreturn, [])]
set_option maxRecDepth 20000 in
def k_X12_bill : List az_I := [
  (0, 1, .aload_n 0, []), (1, 1, .iload_n 1, []), (2, 3, .invokevirtual 275, [0, 164, 2, 13]), (5, 3, .ifCond .eq 55, []), (8, 1, .iload_n 2, []), (9, 1, .i2l, []),
  (10, 1, .lconst 0, []), (11, 3, .ldc2_w 252, [60]), (14, 3, .invokestatic 211, [0, 159, 3, 999]), (17, 3, .ifCond .eq 43, []), (20, 1, .iload_n 3, []), (21, 1, .i2l, []),
  (22, 1, .aload_n 0, []), (23, 3, .getfield 37, [13, 16]), (26, 1, .iload_n 1, []), (27, 1, .iaload, []), (28, 1, .i2l, []), (29, 3, .ldc2_w 333, [3269]),
  (32, 3, .invokestatic 211, [0, 159, 3, 999]), (35, 3, .ifCond .eq 25, []), (38, 1, .aload_n 0, []), (39, 2, .iload 4, []), (41, 3, .invokevirtual 246, [0, 163, 2, 13]), (44, 3, .ifCond .eq 16, []),
  (47, 1, .aload_n 0, []), (48, 1, .iload_n 1, []), (49, 1, .iload_n 3, []), (50, 1, .aload_n 0, []), (51, 3, .getfield 225, [13, 3]), (54, 3, .invokevirtual 282, [0, 181, 4, 13]),
  (57, 3, .ifCond .ge 5, []), (60, 1, .lconst 0, []), (61, 1, .lreturn, []), (62, 1, .lconst 0, []), (63, 2, .lstore 5, []), (65, 1, .iconst 0, []),
  (66, 2, .istore 7, []), (68, 2, .iload 7, []), (70, 2, .bipush 12, []), (72, 3, .if_icmp .ge 31, []), (75, 2, .lload 5, []), (77, 1, .aload_n 0, []),
  (78, 2, .iload 4, []), (80, 1, .iload_n 3, []), (81, 2, .bipush 30, []), (83, 2, .iload 7, []), (85, 1, .imul, []), (86, 1, .iadd, []),
  (87, 1, .aload_n 0, []), (88, 3, .getfield 225, [13, 3]), (91, 3, .invokevirtual 329, [0, 198, 4, 13]), (94, 1, .lsub, []), (95, 2, .lstore 5, []), (97, 3, .iinc 7 1, []),
  (100, 3, .goto (-32), []), (103, 1, .aload_n 0, []), (104, 1, .iload_n 1, []), (105, 1, .iload_n 3, []), (106, 1, .iload_n 2, []), (107, 3, .invokevirtual 257, [0, 174, 4, 13]),
  (110, 1, .iconst 0, []), (111, 2, .istore 7, []), (113, 2, .iload 7, []), (115, 2, .bipush 12, []), (117, 3, .if_icmp .ge 31, []), (120, 2, .lload 5, []),
  (122, 1, .aload_n 0, []), (123, 2, .iload 4, []), (125, 1, .iload_n 3, []), (126, 2, .bipush 30, []), (128, 2, .iload 7, []), (130, 1, .imul, []),
  (131, 1, .iadd, []), (132, 1, .aload_n 0, []), (133, 3, .getfield 225, [13, 3]), (136, 3, .invokevirtual 329, [0, 198, 4, 13]), (139, 1, .ladd, []), (140, 2, .lstore 5, []),
  (142, 3, .iinc 7 1, []), (145, 3, .goto (-32), []), (148, 1, .aload_n 0, []), (149, 3, .getfield 49, [13, 20]), (152, 1, .iload_n 1, []), (153, 1, .dup2, []),
  (154, 1, .iaload, []), (155, 1, .iconst 1, []), (156, 1, .isub, []), (157, 1, .iastore, []), (158, 3, .ldc2_w 335, [30]), (161, 2, .lload 5, []),
  (163, 1, .lmul, []), (164, 1, .lreturn, [])]
set_option maxRecDepth 20000 in
def k_X12_measure : List az_I := [
  (0, 1, .aload_n 0, []), (1, 1, .iload_n 1, []), (2, 3, .invokevirtual 275, [0, 164, 2, 13]), (5, 3, .ifCond .eq 59, []), (8, 1, .iload_n 2, []), (9, 3, .invokestatic 228, [0, 161, 1, 999]),
  (12, 3, .ifCond .eq 52, []), (15, 1, .aload_n 0, []), (16, 1, .iload_n 3, []), (17, 3, .invokevirtual 249, [0, 162, 2, 13]), (20, 3, .ifCond .eq 44, []), (23, 1, .aload_n 0, []),
  (24, 1, .aload_n 0, []), (25, 3, .getfield 225, [13, 3]), (28, 1, .iload_n 2, []), (29, 3, .invokevirtual 242, [0, 168, 3, 13]), (32, 3, .ifCond .ne 32, []), (35, 1, .aload_n 0, []),
  (36, 3, .getfield 67, [13, 26]), (39, 1, .iload_n 1, []), (40, 1, .iaload, []), (41, 1, .aload_n 0, []), (42, 3, .getfield 225, [13, 3]), (45, 3, .if_icmp .eq 19, []),
  (48, 1, .aload_n 0, []), (49, 1, .iload_n 1, []), (50, 1, .aload_n 0, []), (51, 3, .getfield 225, [13, 3]), (54, 1, .aload_n 0, []), (55, 3, .getfield 225, [13, 3]),
  (58, 3, .invokevirtual 282, [0, 181, 4, 13]), (61, 3, .ifCond .ge 5, []), (64, 1, .iconst (-1), []), (65, 1, .ireturn, []), (66, 1, .aload_n 0, []), (67, 1, .iload_n 1, []),
  (68, 1, .aload_n 0, []), (69, 3, .getfield 225, [13, 3]), (72, 1, .aload_n 0, []), (73, 3, .getfield 225, [13, 3]), (76, 3, .invokevirtual 282, [0, 181, 4, 13]), (79, 2, .istore 4, []),
  (81, 1, .iconst (-1), []), (82, 2, .istore 5, []), (84, 1, .iconst 1, []), (85, 2, .istore 6, []), (87, 2, .iload 6, []), (89, 2, .bipush 61, []),
  (91, 3, .if_icmp .ge 68, []), (94, 1, .aload_n 0, []), (95, 1, .aload_n 0, []), (96, 3, .getfield 31, [13, 14]), (99, 1, .iload_n 1, []), (100, 1, .iaload, []),
  (101, 1, .aload_n 0, []), (102, 3, .getfield 43, [13, 18]), (105, 1, .iload_n 1, []), (106, 1, .iaload, []), (107, 1, .aload_n 0, []), (108, 3, .getfield 46, [13, 19]),
  (111, 1, .iload_n 1, []), (112, 1, .iaload, []), (113, 1, .aload_n 0, []), (114, 3, .getfield 225, [13, 3]), (117, 1, .iload_n 2, []), (118, 2, .iload 6, []),
  (120, 3, .invokevirtual 292, [0, 185, 7, 13]), (123, 1, .iload_n 3, []), (124, 3, .if_icmp .ne 29, []), (127, 2, .iload 5, []), (129, 3, .ifCond .lt 20, []), (132, 2, .iload 6, []),
  (134, 2, .iload 4, []), (136, 3, .invokestatic 337, [0, 202, 2, 999]), (139, 2, .iload 5, []), (141, 2, .iload 4, []), (143, 3, .invokestatic 337, [0, 202, 2, 999]), (146, 3, .if_icmp .ge 7, []),
  (149, 2, .iload 6, []), (151, 2, .istore 5, []), (153, 3, .iinc 6 1, []), (156, 3, .goto (-69), []), (159, 2, .iload 5, []), (161, 3, .ifCond .lt 21, []),
  (164, 2, .iload 5, []), (166, 2, .iload 4, []), (168, 3, .if_icmp .eq 16, []), (171, 1, .aload_n 0, []), (172, 3, .getfield 49, [13, 20]), (175, 1, .iload_n 1, []),
  (176, 1, .iaload, []), (177, 2, .bipush 40, []), (179, 3, .if_icmp .ne 5, []), (182, 1, .iconst (-1), []), (183, 1, .ireturn, []), (184, 2, .iload 5, []),
  (186, 2, .iload 4, []), (188, 3, .if_icmp .eq 120, []), (191, 1, .aload_n 0, []), (192, 3, .getfield 67, [13, 26]), (195, 1, .iload_n 1, []), (196, 1, .iaload, []),
  (197, 3, .ifCond .ge 12, []), (200, 1, .aload_n 0, []), (201, 3, .getfield 37, [13, 16]), (204, 1, .iload_n 1, []), (205, 1, .iaload, []), (206, 3, .goto 11, []),
  (209, 1, .aload_n 0, []), (210, 3, .getfield 67, [13, 26]), (213, 1, .iload_n 1, []), (214, 1, .iaload, []), (215, 1, .iconst 1, []), (216, 1, .iadd, []),
  (217, 2, .istore 6, []), (219, 1, .aload_n 0, []), (220, 3, .getfield 52, [13, 21]), (223, 1, .aload_n 0, []), (224, 1, .iload_n 1, []), (225, 1, .aload_n 0, []),
  (226, 3, .getfield 225, [13, 3]), (229, 1, .aload_n 0, []), (230, 3, .getfield 225, [13, 3]), (233, 3, .invokevirtual 278, [0, 180, 4, 13]), (236, 1, .iaload, []), (237, 2, .istore 7, []),
  (239, 2, .iload 7, []), (241, 2, .iload 6, []), (243, 3, .if_icmp .le 8, []), (246, 2, .iload 7, []), (248, 3, .goto 5, []), (251, 2, .iload 6, []),
  (253, 2, .istore 6, []), (255, 1, .aload_n 0, []), (256, 3, .getfield 28, [13, 13]), (259, 1, .iload_n 1, []), (260, 1, .iaload, []), (261, 1, .iconst 1, []),
  (262, 3, .if_icmp .ne 20, []), (265, 1, .aload_n 0, []), (266, 3, .getfield 225, [13, 3]), (269, 2, .iload 6, []), (271, 1, .isub, []), (272, 1, .aload_n 0, []),
  (273, 3, .getfield 40, [13, 17]), (276, 1, .iload_n 1, []), (277, 1, .iaload, []), (278, 1, .idiv, []), (279, 3, .goto 4, []), (282, 1, .iconst 0, []),
  (283, 2, .istore 8, []), (285, 1, .aload_n 0, []), (286, 1, .iload_n 1, []), (287, 2, .iload 6, []), (289, 2, .iload 5, []), (291, 2, .iload 8, []),
  (293, 3, .if_icmp .le 11, []), (296, 2, .iload 5, []), (298, 2, .iload 8, []), (300, 1, .isub, []), (301, 3, .goto 4, []), (304, 1, .iconst 0, []),
  (305, 3, .invokevirtual 257, [0, 174, 4, 13]), (308, 1, .aload_n 0, []), (309, 3, .getfield 67, [13, 26]), (312, 1, .iload_n 1, []), (313, 1, .aload_n 0, []), (314, 3, .getfield 225, [13, 3]),
  (317, 1, .iastore, []), (318, 1, .aload_n 0, []), (319, 1, .iload_n 1, []), (320, 1, .aload_n 0, []), (321, 3, .getfield 225, [13, 3]), (324, 1, .aload_n 0, []),
  (325, 3, .getfield 225, [13, 3]), (328, 3, .invokevirtual 282, [0, 181, 4, 13]), (331, 1, .ireturn, [])]
set_option maxRecDepth 20000 in
def k_X12_far : List az_I := [
  (0, 1, .iload_n 0, []), (1, 1, .iload_n 1, []), (2, 3, .if_icmp .le 9, []), (5, 1, .iload_n 0, []), (6, 1, .iload_n 1, []), (7, 1, .isub, []),
  (8, 3, .goto 6, []), (11, 1, .iload_n 1, []), (12, 1, .iload_n 0, []), (13, 1, .isub, []), (14, 1, .ireturn, [])]
set_option maxRecDepth 20000 in
def k_X12_thing : List az_I := [
  (0, 1, .aload_n 0, []), (1, 1, .iload_n 1, []), (2, 3, .invokevirtual 275, [0, 164, 2, 13]), (5, 3, .ifCond .ne 5, []), (8, 1, .iconst (-1), []), (9, 1, .ireturn, []),
  (10, 1, .iload_n 2, []), (11, 45, .tableswitch 101 0 7 #[45, 52, 59, 66, 73, 80, 87, 94], []), (56, 1, .aload_n 0, []), (57, 3, .getfield 28, [13, 13]), (60, 1, .iload_n 1, []), (61, 1, .iaload, []),
  (62, 1, .ireturn, []), (63, 1, .aload_n 0, []), (64, 3, .getfield 31, [13, 14]), (67, 1, .iload_n 1, []), (68, 1, .iaload, []), (69, 1, .ireturn, []),
  (70, 1, .aload_n 0, []), (71, 3, .getfield 34, [13, 15]), (74, 1, .iload_n 1, []), (75, 1, .iaload, []), (76, 1, .ireturn, []), (77, 1, .aload_n 0, []),
  (78, 3, .getfield 37, [13, 16]), (81, 1, .iload_n 1, []), (82, 1, .iaload, []), (83, 1, .ireturn, []), (84, 1, .aload_n 0, []), (85, 3, .getfield 49, [13, 20]),
  (88, 1, .iload_n 1, []), (89, 1, .iaload, []), (90, 1, .ireturn, []), (91, 1, .aload_n 0, []), (92, 3, .getfield 61, [13, 24]), (95, 1, .iload_n 1, []),
  (96, 1, .iaload, []), (97, 1, .ireturn, []), (98, 1, .aload_n 0, []), (99, 3, .getfield 67, [13, 26]), (102, 1, .iload_n 1, []), (103, 1, .iaload, []),
  (104, 1, .ireturn, []), (105, 1, .aload_n 0, []), (106, 3, .getfield 40, [13, 17]), (109, 1, .iload_n 1, []), (110, 1, .iaload, []), (111, 1, .ireturn, []),
  (112, 1, .iconst (-1), []), (113, 1, .ireturn, [])]
set_option maxRecDepth 20000 in
def k_X12_entry : List az_I := [
  (0, 1, .aload_n 0, []), (1, 1, .iload_n 1, []), (2, 3, .invokevirtual 275, [0, 164, 2, 13]), (5, 3, .ifCond .eq 21, []), (8, 1, .iload_n 2, []), (9, 1, .i2l, []),
  (10, 1, .lconst 0, []), (11, 1, .aload_n 0, []), (12, 3, .getfield 49, [13, 20]), (15, 1, .iload_n 1, []), (16, 1, .iaload, []), (17, 1, .iconst 1, []),
  (18, 1, .isub, []), (19, 1, .i2l, []), (20, 3, .invokestatic 211, [0, 159, 3, 999]), (23, 3, .ifCond .ne 5, []), (26, 1, .iconst (-1), []), (27, 1, .ireturn, []),
  (28, 2, .bipush 41, []), (30, 1, .iload_n 1, []), (31, 1, .imul, []), (32, 1, .iload_n 2, []), (33, 1, .iadd, []), (34, 2, .istore 4, []),
  (36, 1, .iload_n 3, []), (37, 3, .ifCond .ne 13, []), (40, 1, .aload_n 0, []), (41, 3, .getfield 52, [13, 21]), (44, 2, .iload 4, []), (46, 1, .iaload, []),
  (47, 3, .goto 34, []), (50, 1, .iload_n 3, []), (51, 1, .iconst 1, []), (52, 3, .if_icmp .ne 13, []), (55, 1, .aload_n 0, []), (56, 3, .getfield 55, [13, 22]),
  (59, 2, .iload 4, []), (61, 1, .iaload, []), (62, 3, .goto 19, []), (65, 1, .iload_n 3, []), (66, 1, .iconst 2, []), (67, 3, .if_icmp .ne 13, []),
  (70, 1, .aload_n 0, []), (71, 3, .getfield 58, [13, 23]), (74, 2, .iload 4, []), (76, 1, .iaload, []), (77, 3, .goto 4, []), (80, 1, .iconst (-1), []),
  (81, 1, .ireturn, [])]
set_option maxRecDepth 20000 in
def k_X12_put : List az_I := [
  (0, 1, .aload_n 0, []), (1, 3, .getfield 103, [13, 39]), (4, 1, .aload_n 0, []), (5, 3, .getfield 340, [13, 40]), (8, 1, .iload_n 1, []), (9, 2, .bipush 24, []),
  (11, 1, .ishr, []), (12, 1, .i2b, []), (13, 1, .bastore, []), (14, 1, .aload_n 0, []), (15, 3, .getfield 103, [13, 39]), (18, 1, .aload_n 0, []),
  (19, 3, .getfield 340, [13, 40]), (22, 1, .iconst 1, []), (23, 1, .iadd, []), (24, 1, .iload_n 1, []), (25, 2, .bipush 16, []), (27, 1, .ishr, []),
  (28, 1, .i2b, []), (29, 1, .bastore, []), (30, 1, .aload_n 0, []), (31, 3, .getfield 103, [13, 39]), (34, 1, .aload_n 0, []), (35, 3, .getfield 340, [13, 40]),
  (38, 1, .iconst 2, []), (39, 1, .iadd, []), (40, 1, .iload_n 1, []), (41, 2, .bipush 8, []), (43, 1, .ishr, []), (44, 1, .i2b, []),
  (45, 1, .bastore, []), (46, 1, .aload_n 0, []), (47, 3, .getfield 103, [13, 39]), (50, 1, .aload_n 0, []), (51, 3, .getfield 340, [13, 40]), (54, 1, .iconst 3, []),
  (55, 1, .iadd, []), (56, 1, .iload_n 1, []), (57, 1, .i2b, []), (58, 1, .bastore, []), (59, 1, .aload_n 0, []), (60, 1, .dup, []),
  (61, 3, .getfield 340, [13, 40]), (64, 1, .iconst 4, []), (65, 1, .iadd, []), (66, 3, .putfield 340, [13, 40]), (69, 1, .return_, [])]
set_option maxRecDepth 20000 in
def k_X12_feed : List az_I := [
  (0, 1, .aload_n 0, []), (1, 3, .getfield 340, [13, 40]), (4, 2, .bipush 20, []), (6, 1, .iadd, []), (7, 3, .sipush 400, []), (10, 3, .if_icmp .le 5, []),
  (13, 1, .iconst (-1), []), (14, 1, .ireturn, []), (15, 1, .aload_n 0, []), (16, 1, .iload_n 1, []), (17, 3, .invokevirtual 343, [0, 205, 2, 13]), (20, 1, .aload_n 0, []),
  (21, 1, .iload_n 2, []), (22, 3, .invokevirtual 343, [0, 205, 2, 13]), (25, 1, .aload_n 0, []), (26, 1, .iload_n 3, []), (27, 3, .invokevirtual 343, [0, 205, 2, 13]), (30, 1, .aload_n 0, []),
  (31, 2, .iload 4, []), (33, 3, .invokevirtual 343, [0, 205, 2, 13]), (36, 1, .aload_n 0, []), (37, 2, .iload 5, []), (39, 3, .invokevirtual 343, [0, 205, 2, 13]), (42, 1, .aload_n 0, []),
  (43, 3, .getfield 340, [13, 40]), (46, 1, .ireturn, [])]
set_option maxRecDepth 20000 in
def k_X12_end : List az_I := [
  (0, 1, .iload_n 1, []), (1, 1, .i2l, []), (2, 1, .lconst 0, []), (3, 1, .aload_n 0, []), (4, 3, .getfield 340, [13, 40]), (7, 1, .i2l, []),
  (8, 3, .invokestatic 211, [0, 159, 3, 999]), (11, 3, .ifCond .ne 5, []), (14, 1, .iconst (-1), []), (15, 1, .ireturn, []), (16, 1, .aload_n 0, []), (17, 1, .iload_n 1, []),
  (18, 3, .putfield 340, [13, 40]), (21, 1, .iload_n 1, []), (22, 1, .ireturn, [])]
set_option maxRecDepth 20000 in
def k_X12_isLetter : List az_I := [
  (0, 1, .iload_n 0, []), (1, 1, .i2l, []), (2, 3, .ldc2_w 347, [97]), (5, 3, .ldc2_w 349, [122]), (8, 3, .invokestatic 211, [0, 159, 3, 999]), (11, 3, .ifCond .ne 17, []),
  (14, 1, .iload_n 0, []), (15, 1, .i2l, []), (16, 3, .ldc2_w 351, [65]), (19, 3, .ldc2_w 353, [90]), (22, 3, .invokestatic 211, [0, 159, 3, 999]), (25, 3, .ifCond .eq 7, []),
  (28, 1, .iconst 1, []), (29, 3, .goto 4, []), (32, 1, .iconst 0, []), (33, 1, .ireturn, [])]
set_option maxRecDepth 20000 in
def k_X12_wordOf : List az_I := [
  (0, 1, .lload_n 0, []), (1, 3, .ldc2_w 355, [14584174]), (4, 1, .lcmp, []), (5, 3, .ifCond .ne 5, []), (8, 1, .iconst 0, []), (9, 1, .ireturn, []),
  (10, 1, .lload_n 0, []), (11, 3, .ldc2_w 357, [10395045]), (14, 1, .lcmp, []), (15, 3, .ifCond .ne 5, []), (18, 1, .iconst 1, []), (19, 1, .ireturn, []),
  (20, 1, .lload_n 0, []), (21, 3, .ldc2_w 359, [3058]), (24, 1, .lcmp, []), (25, 3, .ifCond .ne 5, []), (28, 1, .iconst 2, []), (29, 1, .ireturn, []),
  (30, 1, .lload_n 0, []), (31, 3, .ldc2_w 361, [138148]), (34, 1, .lcmp, []), (35, 3, .ifCond .ne 5, []), (38, 1, .iconst 3, []), (39, 1, .ireturn, []),
  (40, 1, .lload_n 0, []), (41, 3, .ldc2_w 363, [191476]), (44, 1, .lcmp, []), (45, 3, .ifCond .ne 5, []), (48, 1, .iconst 4, []), (49, 1, .ireturn, []),
  (50, 1, .lload_n 0, []), (51, 3, .ldc2_w 365, [186990]), (54, 1, .lcmp, []), (55, 3, .ifCond .ne 5, []), (58, 1, .iconst 5, []), (59, 1, .ireturn, []),
  (60, 1, .lload_n 0, []), (61, 3, .ldc2_w 367, [186488]), (64, 1, .lcmp, []), (65, 3, .ifCond .ne 6, []), (68, 2, .bipush 6, []), (70, 1, .ireturn, []),
  (71, 1, .lload_n 0, []), (72, 3, .ldc2_w 369, [10681714]), (75, 1, .lcmp, []), (76, 3, .ifCond .ne 6, []), (79, 2, .bipush 7, []), (81, 1, .ireturn, []),
  (82, 1, .lload_n 0, []), (83, 3, .ldc2_w 371, [767487272]), (86, 1, .lcmp, []), (87, 3, .ifCond .ne 6, []), (90, 2, .bipush 8, []), (92, 1, .ireturn, []),
  (93, 1, .lload_n 0, []), (94, 3, .ldc2_w 373, [149625]), (97, 1, .lcmp, []), (98, 3, .ifCond .ne 6, []), (101, 2, .bipush 9, []), (103, 1, .ireturn, []),
  (104, 1, .lload_n 0, []), (105, 3, .ldc2_w 375, [43581340212]), (108, 1, .lcmp, []), (109, 3, .ifCond .ne 6, []), (112, 2, .bipush 10, []), (114, 1, .ireturn, []),
  (115, 1, .lload_n 0, []), (116, 3, .ldc2_w 377, [11934649]), (119, 1, .lcmp, []), (120, 3, .ifCond .ne 6, []), (123, 2, .bipush 11, []), (125, 1, .ireturn, []),
  (126, 1, .lload_n 0, []), (127, 3, .ldc2_w 379, [11443108]), (130, 1, .lcmp, []), (131, 3, .ifCond .ne 6, []), (134, 2, .bipush 12, []), (136, 1, .ireturn, []),
  (137, 1, .lload_n 0, []), (138, 3, .ldc2_w 381, [883071911]), (141, 1, .lcmp, []), (142, 3, .ifCond .ne 6, []), (145, 2, .bipush 13, []), (147, 1, .ireturn, []),
  (148, 1, .lload_n 0, []), (149, 3, .ldc2_w 383, [869407532]), (152, 1, .lcmp, []), (153, 3, .ifCond .ne 6, []), (156, 2, .bipush 14, []), (158, 1, .ireturn, []),
  (159, 1, .iconst (-1), []), (160, 1, .ireturn, [])]
set_option maxRecDepth 20000 in
def k_X12_next : List az_I := [
  (0, 1, .aload_n 0, []), (1, 3, .getfield 385, [13, 42]), (4, 1, .aload_n 0, []), (5, 3, .getfield 388, [13, 41]), (8, 3, .if_icmp .ge 44, []), (11, 1, .aload_n 0, []),
  (12, 3, .getfield 103, [13, 39]), (15, 1, .aload_n 0, []), (16, 3, .getfield 385, [13, 42]), (19, 1, .baload, []), (20, 2, .bipush 32, []), (22, 3, .if_icmp .eq 17, []),
  (25, 1, .aload_n 0, []), (26, 3, .getfield 103, [13, 39]), (29, 1, .aload_n 0, []), (30, 3, .getfield 385, [13, 42]), (33, 1, .baload, []), (34, 2, .bipush 10, []),
  (36, 3, .if_icmp .ne 16, []), (39, 1, .aload_n 0, []), (40, 1, .dup, []), (41, 3, .getfield 385, [13, 42]), (44, 1, .iconst 1, []), (45, 1, .iadd, []),
  (46, 3, .putfield 385, [13, 42]), (49, 3, .goto (-49), []), (52, 1, .aload_n 0, []), (53, 1, .aload_n 0, []), (54, 3, .getfield 385, [13, 42]), (57, 3, .putfield 391, [13, 43]),
  (60, 1, .aload_n 0, []), (61, 3, .getfield 385, [13, 42]), (64, 1, .aload_n 0, []), (65, 3, .getfield 388, [13, 41]), (68, 3, .if_icmp .ne 9, []), (71, 1, .aload_n 0, []),
  (72, 1, .iconst 0, []), (73, 3, .putfield 394, [13, 44]), (76, 1, .return_, []), (77, 1, .aload_n 0, []), (78, 3, .getfield 103, [13, 39]), (81, 1, .aload_n 0, []),
  (82, 3, .getfield 385, [13, 42]), (85, 1, .baload, []), (86, 1, .istore_n 1, []), (87, 1, .iload_n 1, []), (88, 3, .invokestatic 397, [0, 208, 1, 999]), (91, 3, .ifCond .eq 120, []),
  (94, 1, .lconst 0, []), (95, 1, .lstore_n 2, []), (96, 1, .iconst 0, []), (97, 2, .istore 4, []), (99, 1, .aload_n 0, []), (100, 3, .getfield 385, [13, 42]),
  (103, 1, .aload_n 0, []), (104, 3, .getfield 388, [13, 41]), (107, 3, .if_icmp .ge 66, []), (110, 1, .aload_n 0, []), (111, 3, .getfield 103, [13, 39]), (114, 1, .aload_n 0, []),
  (115, 3, .getfield 385, [13, 42]), (118, 1, .baload, []), (119, 3, .invokestatic 397, [0, 208, 1, 999]), (122, 3, .ifCond .eq 51, []), (125, 2, .iload 4, []), (127, 2, .bipush 8, []),
  (129, 3, .if_icmp .ge 26, []), (132, 3, .ldc2_w 400, [64]), (135, 1, .lload_n 2, []), (136, 1, .lmul, []), (137, 1, .aload_n 0, []), (138, 3, .getfield 103, [13, 39]),
  (141, 1, .aload_n 0, []), (142, 3, .getfield 385, [13, 42]), (145, 1, .baload, []), (146, 1, .i2l, []), (147, 1, .ladd, []), (148, 3, .ldc2_w 400, [64]),
  (151, 1, .lsub, []), (152, 3, .goto 4, []), (155, 1, .lload_n 2, []), (156, 1, .lstore_n 2, []), (157, 3, .iinc 4 1, []), (160, 1, .aload_n 0, []),
  (161, 1, .dup, []), (162, 3, .getfield 385, [13, 42]), (165, 1, .iconst 1, []), (166, 1, .iadd, []), (167, 3, .putfield 385, [13, 42]), (170, 3, .goto (-71), []),
  (173, 1, .aload_n 0, []), (174, 2, .iload 4, []), (176, 2, .bipush 6, []), (178, 3, .if_icmp .le 7, []), (181, 1, .iconst (-1), []), (182, 3, .goto 7, []),
  (185, 1, .lload_n 2, []), (186, 3, .invokestatic 402, [0, 209, 1, 999]), (189, 3, .putfield 406, [13, 45]), (192, 1, .aload_n 0, []), (193, 1, .aload_n 0, []), (194, 3, .getfield 406, [13, 45]),
  (197, 3, .ifCond .ge 7, []), (200, 1, .iconst 4, []), (201, 3, .goto 4, []), (204, 1, .iconst 1, []), (205, 3, .putfield 394, [13, 44]), (208, 3, .goto 211, []),
  (211, 1, .iload_n 1, []), (212, 1, .i2l, []), (213, 3, .ldc2_w 409, [48]), (216, 3, .ldc2_w 411, [57]), (219, 3, .invokestatic 211, [0, 159, 3, 999]), (222, 3, .ifCond .eq 100, []),
  (225, 1, .aload_n 0, []), (226, 1, .iconst 2, []), (227, 3, .putfield 394, [13, 44]), (230, 1, .aload_n 0, []), (231, 1, .iconst 0, []), (232, 3, .putfield 406, [13, 45]),
  (235, 1, .aload_n 0, []), (236, 3, .getfield 385, [13, 42]), (239, 1, .aload_n 0, []), (240, 3, .getfield 388, [13, 41]), (243, 3, .if_icmp .ge 176, []), (246, 1, .aload_n 0, []),
  (247, 3, .getfield 103, [13, 39]), (250, 1, .aload_n 0, []), (251, 3, .getfield 385, [13, 42]), (254, 1, .baload, []), (255, 1, .i2l, []), (256, 3, .ldc2_w 409, [48]),
  (259, 3, .ldc2_w 411, [57]), (262, 3, .invokestatic 211, [0, 159, 3, 999]), (265, 3, .ifCond .eq 154, []), (268, 1, .aload_n 0, []), (269, 1, .aload_n 0, []), (270, 3, .getfield 406, [13, 45]),
  (273, 3, .ldc_w 413, [0, 999999]), (276, 3, .if_icmp .le 10, []), (279, 1, .aload_n 0, []), (280, 3, .getfield 406, [13, 45]), (283, 3, .goto 23, []), (286, 2, .bipush 10, []),
  (288, 1, .aload_n 0, []), (289, 3, .getfield 406, [13, 45]), (292, 1, .imul, []), (293, 1, .aload_n 0, []), (294, 3, .getfield 103, [13, 39]), (297, 1, .aload_n 0, []),
  (298, 3, .getfield 385, [13, 42]), (301, 1, .baload, []), (302, 1, .iadd, []), (303, 2, .bipush 48, []), (305, 1, .isub, []), (306, 3, .putfield 406, [13, 45]),
  (309, 1, .aload_n 0, []), (310, 1, .dup, []), (311, 3, .getfield 385, [13, 42]), (314, 1, .iconst 1, []), (315, 1, .iadd, []), (316, 3, .putfield 385, [13, 42]),
  (319, 3, .goto (-84), []), (322, 1, .aload_n 0, []), (323, 1, .dup, []), (324, 3, .getfield 385, [13, 42]), (327, 1, .iconst 1, []), (328, 1, .iadd, []),
  (329, 3, .putfield 385, [13, 42]), (332, 1, .aload_n 0, []), (333, 1, .iload_n 1, []), (334, 3, .putfield 406, [13, 45]), (337, 1, .aload_n 0, []), (338, 1, .iload_n 1, []),
  (339, 3, .invokestatic 414, [0, 211, 1, 999]), (342, 3, .ifCond .eq 7, []), (345, 1, .iconst 3, []), (346, 3, .goto 4, []), (349, 1, .iconst 4, []), (350, 3, .putfield 394, [13, 44]),
  (353, 1, .iload_n 1, []), (354, 2, .bipush 60, []), (356, 3, .if_icmp .eq 9, []), (359, 1, .iload_n 1, []), (360, 2, .bipush 62, []), (362, 3, .if_icmp .ne 57, []),
  (365, 1, .aload_n 0, []), (366, 3, .getfield 385, [13, 42]), (369, 1, .aload_n 0, []), (370, 3, .getfield 388, [13, 41]), (373, 3, .if_icmp .ge 46, []), (376, 1, .aload_n 0, []),
  (377, 3, .getfield 103, [13, 39]), (380, 1, .aload_n 0, []), (381, 3, .getfield 385, [13, 42]), (384, 1, .baload, []), (385, 2, .bipush 61, []), (387, 3, .if_icmp .ne 32, []),
  (390, 1, .aload_n 0, []), (391, 1, .iload_n 1, []), (392, 2, .bipush 60, []), (394, 3, .if_icmp .ne 9, []), (397, 3, .sipush 300, []), (400, 3, .goto 6, []),
  (403, 3, .sipush 301, []), (406, 3, .putfield 406, [13, 45]), (409, 1, .aload_n 0, []), (410, 1, .dup, []), (411, 3, .getfield 385, [13, 42]), (414, 1, .iconst 1, []),
  (415, 1, .iadd, []), (416, 3, .putfield 385, [13, 42]), (419, 1, .return_, [])]
set_option maxRecDepth 20000 in
def k_X12_isSignByte : List az_I := [
  (0, 1, .iload_n 0, []), (1, 1, .i2l, []), (2, 3, .ldc2_w 417, [59]), (5, 3, .ldc2_w 419, [62]), (8, 3, .invokestatic 211, [0, 159, 3, 999]), (11, 3, .ifCond .ne 63, []),
  (14, 1, .iload_n 0, []), (15, 2, .bipush 35, []), (17, 3, .if_icmp .eq 57, []), (20, 1, .iload_n 0, []), (21, 2, .bipush 43, []), (23, 3, .if_icmp .eq 51, []),
  (26, 1, .iload_n 0, []), (27, 2, .bipush 45, []), (29, 3, .if_icmp .eq 45, []), (32, 1, .iload_n 0, []), (33, 2, .bipush 42, []), (35, 3, .if_icmp .eq 39, []),
  (38, 1, .iload_n 0, []), (39, 2, .bipush 47, []), (41, 3, .if_icmp .eq 33, []), (44, 1, .iload_n 0, []), (45, 2, .bipush 40, []), (47, 3, .if_icmp .eq 27, []),
  (50, 1, .iload_n 0, []), (51, 2, .bipush 41, []), (53, 3, .if_icmp .eq 21, []), (56, 1, .iload_n 0, []), (57, 2, .bipush 91, []), (59, 3, .if_icmp .eq 15, []),
  (62, 1, .iload_n 0, []), (63, 2, .bipush 93, []), (65, 3, .if_icmp .eq 9, []), (68, 1, .iload_n 0, []), (69, 2, .bipush 44, []), (71, 3, .if_icmp .ne 7, []),
  (74, 1, .iconst 1, []), (75, 3, .goto 4, []), (78, 1, .iconst 0, []), (79, 1, .ireturn, [])]
set_option maxRecDepth 20000 in
def k_X12_isSign : List az_I := [
  (0, 1, .aload_n 0, []), (1, 3, .getfield 394, [13, 44]), (4, 1, .iconst 3, []), (5, 3, .if_icmp .ne 15, []), (8, 1, .aload_n 0, []), (9, 3, .getfield 406, [13, 45]),
  (12, 1, .iload_n 1, []), (13, 3, .if_icmp .ne 7, []), (16, 1, .iconst 1, []), (17, 3, .goto 4, []), (20, 1, .iconst 0, []), (21, 1, .ireturn, [])]
set_option maxRecDepth 20000 in
def k_X12_isWord : List az_I := [
  (0, 1, .aload_n 0, []), (1, 3, .getfield 394, [13, 44]), (4, 1, .iconst 1, []), (5, 3, .if_icmp .ne 15, []), (8, 1, .aload_n 0, []), (9, 3, .getfield 406, [13, 45]),
  (12, 1, .iload_n 1, []), (13, 3, .if_icmp .ne 7, []), (16, 1, .iconst 1, []), (17, 3, .goto 4, []), (20, 1, .iconst 0, []), (21, 1, .ireturn, [])]
set_option maxRecDepth 20000 in
def k_X12_errs : List az_I := [
  (0, 1, .aload_n 0, []), (1, 3, .getfield 421, [13, 46]), (4, 3, .ifCond .ne 16, []), (7, 1, .aload_n 0, []), (8, 1, .iload_n 1, []), (9, 3, .putfield 421, [13, 46]),
  (12, 1, .aload_n 0, []), (13, 1, .aload_n 0, []), (14, 3, .getfield 391, [13, 43]), (17, 3, .putfield 424, [13, 47]), (20, 1, .return_, [])]
set_option maxRecDepth 20000 in
def k_X12_emits : List az_I := [
  (0, 1, .aload_n 0, []), (1, 3, .getfield 114, [13, 52]), (4, 1, .aload_n 0, []), (5, 3, .getfield 427, [13, 50]), (8, 1, .iload_n 1, []), (9, 1, .iastore, []),
  (10, 1, .aload_n 0, []), (11, 3, .getfield 117, [13, 53]), (14, 1, .aload_n 0, []), (15, 3, .getfield 427, [13, 50]), (18, 1, .iload_n 2, []), (19, 1, .iastore, []),
  (20, 1, .aload_n 0, []), (21, 1, .dup, []), (22, 3, .getfield 427, [13, 50]), (25, 1, .iconst 1, []), (26, 1, .iadd, []), (27, 3, .putfield 427, [13, 50]),
  (30, 1, .return_, [])]
set_option maxRecDepth 20000 in
def k_X12_opensFrame : List az_I := [
  (0, 1, .aload_n 0, []), (1, 3, .getfield 126, [13, 59]), (4, 1, .aload_n 0, []), (5, 3, .getfield 430, [13, 58]), (8, 1, .iload_n 1, []), (9, 1, .iastore, []),
  (10, 1, .aload_n 0, []), (11, 1, .dup, []), (12, 3, .getfield 430, [13, 58]), (15, 1, .iconst 1, []), (16, 1, .iadd, []), (17, 3, .putfield 430, [13, 58]),
  (20, 1, .return_, [])]
set_option maxRecDepth 20000 in
def k_X12_top : List az_I := [
  (0, 1, .aload_n 0, []), (1, 3, .getfield 126, [13, 59]), (4, 1, .aload_n 0, []), (5, 3, .getfield 430, [13, 58]), (8, 1, .iconst 1, []), (9, 1, .isub, []),
  (10, 1, .iaload, []), (11, 1, .ireturn, [])]
set_option maxRecDepth 20000 in
def k_X12_opensSign : List az_I := [
  (0, 1, .aload_n 0, []), (1, 3, .getfield 433, [13, 63]), (4, 2, .bipush 10, []), (6, 3, .if_icmp .ne 10, []), (9, 1, .aload_n 0, []), (10, 1, .iconst 3, []),
  (11, 3, .invokevirtual 436, [0, 214, 2, 13]), (14, 1, .iconst 0, []), (15, 1, .ireturn, []), (16, 1, .aload_n 0, []), (17, 1, .dup, []), (18, 3, .getfield 433, [13, 63]),
  (21, 1, .iconst 1, []), (22, 1, .iadd, []), (23, 3, .putfield 433, [13, 63]), (26, 1, .aload_n 0, []), (27, 1, .iload_n 1, []), (28, 3, .invokevirtual 439, [0, 216, 2, 13]),
  (31, 1, .aload_n 0, []), (32, 3, .invokevirtual 442, [0, 210, 1, 13]), (35, 1, .iconst 1, []), (36, 1, .ireturn, [])]
set_option maxRecDepth 20000 in
def k_X12_rank : List az_I := [
  (0, 1, .iload_n 0, []), (1, 3, .sipush 407, []), (4, 3, .if_icmp .ne 7, []), (7, 1, .iconst 1, []), (8, 3, .goto 31, []), (11, 1, .iload_n 0, []),
  (12, 3, .sipush 406, []), (15, 3, .if_icmp .ne 7, []), (18, 1, .iconst 2, []), (19, 3, .goto 20, []), (22, 1, .iload_n 0, []), (23, 2, .bipush 43, []),
  (25, 3, .if_icmp .eq 9, []), (28, 1, .iload_n 0, []), (29, 2, .bipush 45, []), (31, 3, .if_icmp .ne 7, []), (34, 1, .iconst 3, []), (35, 3, .goto 4, []),
  (38, 1, .iconst 4, []), (39, 1, .ireturn, [])]
set_option maxRecDepth 20000 in
def k_X12_works : List az_I := [
  (0, 1, .aload_n 0, []), (1, 3, .getfield 445, [13, 60]), (4, 3, .ifCond .le 66, []), (7, 1, .aload_n 0, []), (8, 3, .getfield 132, [13, 62]), (11, 1, .aload_n 0, []),
  (12, 3, .getfield 445, [13, 60]), (15, 1, .iconst 1, []), (16, 1, .isub, []), (17, 1, .iaload, []), (18, 1, .aload_n 0, []), (19, 3, .getfield 430, [13, 58]),
  (22, 3, .if_icmp .ne 48, []), (25, 1, .aload_n 0, []), (26, 3, .getfield 129, [13, 61]), (29, 1, .aload_n 0, []), (30, 3, .getfield 445, [13, 60]), (33, 1, .iconst 1, []),
  (34, 1, .isub, []), (35, 1, .iaload, []), (36, 3, .invokestatic 448, [0, 219, 1, 999]), (39, 1, .iload_n 1, []), (40, 3, .if_icmp .lt 30, []), (43, 1, .aload_n 0, []),
  (44, 1, .dup, []), (45, 3, .getfield 445, [13, 60]), (48, 1, .iconst 1, []), (49, 1, .isub, []), (50, 3, .putfield 445, [13, 60]), (53, 1, .aload_n 0, []),
  (54, 1, .aload_n 0, []), (55, 3, .getfield 129, [13, 61]), (58, 1, .aload_n 0, []), (59, 3, .getfield 445, [13, 60]), (62, 1, .iaload, []), (63, 1, .iconst 0, []),
  (64, 3, .invokevirtual 451, [0, 215, 3, 13]), (67, 3, .goto (-67), []), (70, 1, .return_, [])]
set_option maxRecDepth 20000 in
def k_X12_waitsFor : List az_I := [
  (0, 1, .aload_n 0, []), (1, 1, .iload_n 1, []), (2, 3, .invokestatic 448, [0, 219, 1, 999]), (5, 3, .invokevirtual 455, [0, 220, 2, 13]), (8, 1, .aload_n 0, []), (9, 3, .getfield 129, [13, 61]),
  (12, 1, .aload_n 0, []), (13, 3, .getfield 445, [13, 60]), (16, 1, .iload_n 1, []), (17, 1, .iastore, []), (18, 1, .aload_n 0, []), (19, 3, .getfield 132, [13, 62]),
  (22, 1, .aload_n 0, []), (23, 3, .getfield 445, [13, 60]), (26, 1, .aload_n 0, []), (27, 3, .getfield 430, [13, 58]), (30, 1, .iastore, []), (31, 1, .aload_n 0, []),
  (32, 1, .dup, []), (33, 3, .getfield 445, [13, 60]), (36, 1, .iconst 1, []), (37, 1, .iadd, []), (38, 3, .putfield 445, [13, 60]), (41, 1, .aload_n 0, []),
  (42, 3, .invokevirtual 442, [0, 210, 1, 13]), (45, 1, .return_, [])]
set_option maxRecDepth 20000 in
def k_X12_asks : List az_I := [
  (0, 1, .aload_n 0, []), (1, 1, .iconst 4, []), (2, 3, .invokevirtual 458, [0, 213, 2, 13]), (5, 3, .ifCond .eq 19, []), (8, 1, .aload_n 0, []), (9, 1, .iconst 4, []),
  (10, 3, .invokevirtual 461, [0, 218, 2, 13]), (13, 3, .ifCond .eq 46, []), (16, 1, .aload_n 0, []), (17, 1, .iconst 0, []), (18, 3, .putfield 464, [13, 78]), (21, 3, .goto 38, []),
  (24, 1, .aload_n 0, []), (25, 2, .bipush 91, []), (27, 3, .invokevirtual 467, [0, 212, 2, 13]), (30, 3, .ifCond .eq 19, []), (33, 1, .aload_n 0, []), (34, 1, .iconst 3, []),
  (35, 3, .invokevirtual 461, [0, 218, 2, 13]), (38, 3, .ifCond .eq 21, []), (41, 1, .aload_n 0, []), (42, 1, .iconst 0, []), (43, 3, .putfield 464, [13, 78]), (46, 3, .goto 13, []),
  (49, 1, .aload_n 0, []), (50, 1, .iconst 5, []), (51, 3, .invokevirtual 439, [0, 216, 2, 13]), (54, 1, .aload_n 0, []), (55, 1, .iconst 1, []), (56, 3, .putfield 464, [13, 78]),
  (59, 1, .return_, [])]
set_option maxRecDepth 20000 in
def k_X12_begins : List az_I := [
  (0, 1, .aload_n 0, []), (1, 3, .getfield 394, [13, 44]), (4, 1, .iconst 2, []), (5, 3, .if_icmp .ne 41, []), (8, 1, .aload_n 0, []), (9, 3, .getfield 406, [13, 45]),
  (12, 3, .ldc_w 470, [0, 100000]), (15, 3, .if_icmp .le 9, []), (18, 1, .aload_n 0, []), (19, 1, .iconst 2, []), (20, 3, .invokevirtual 436, [0, 214, 2, 13]), (23, 1, .return_, []),
  (24, 1, .aload_n 0, []), (25, 3, .sipush 400, []), (28, 1, .aload_n 0, []), (29, 3, .getfield 406, [13, 45]), (32, 3, .invokevirtual 451, [0, 215, 3, 13]), (35, 1, .aload_n 0, []),
  (36, 3, .invokevirtual 442, [0, 210, 1, 13]), (39, 1, .aload_n 0, []), (40, 3, .invokevirtual 471, [0, 224, 1, 13]), (43, 3, .goto 153, []), (46, 1, .aload_n 0, []), (47, 3, .getfield 394, [13, 44]),
  (50, 1, .iconst 1, []), (51, 3, .if_icmp .ne 37, []), (54, 1, .aload_n 0, []), (55, 3, .getfield 406, [13, 45]), (58, 2, .bipush 7, []), (60, 3, .if_icmp .lt 28, []),
  (63, 1, .aload_n 0, []), (64, 3, .sipush 401, []), (67, 1, .aload_n 0, []), (68, 3, .getfield 406, [13, 45]), (71, 2, .bipush 7, []), (73, 1, .isub, []),
  (74, 3, .invokevirtual 451, [0, 215, 3, 13]), (77, 1, .aload_n 0, []), (78, 3, .invokevirtual 442, [0, 210, 1, 13]), (81, 1, .aload_n 0, []), (82, 3, .invokevirtual 471, [0, 224, 1, 13]), (85, 3, .goto 111, []),
  (88, 1, .aload_n 0, []), (89, 2, .bipush 40, []), (91, 3, .invokevirtual 467, [0, 212, 2, 13]), (94, 3, .ifCond .eq 13, []), (97, 1, .aload_n 0, []), (98, 2, .bipush 7, []),
  (100, 3, .invokevirtual 461, [0, 218, 2, 13]), (103, 1, .istore_n 1, []), (104, 3, .goto 92, []), (107, 1, .aload_n 0, []), (108, 2, .bipush 45, []), (110, 3, .invokevirtual 467, [0, 212, 2, 13]),
  (113, 3, .ifCond .eq 13, []), (116, 1, .aload_n 0, []), (117, 2, .bipush 8, []), (119, 3, .invokevirtual 461, [0, 218, 2, 13]), (122, 1, .istore_n 1, []), (123, 3, .goto 73, []),
  (126, 1, .aload_n 0, []), (127, 1, .iconst 5, []), (128, 3, .invokevirtual 458, [0, 213, 2, 13]), (131, 3, .ifCond .ne 12, []), (134, 1, .aload_n 0, []), (135, 2, .bipush 6, []),
  (137, 3, .invokevirtual 458, [0, 213, 2, 13]), (140, 3, .ifCond .eq 51, []), (143, 1, .aload_n 0, []), (144, 3, .getfield 406, [13, 45]), (147, 1, .istore_n 1, []), (148, 1, .aload_n 0, []),
  (149, 3, .invokevirtual 442, [0, 210, 1, 13]), (152, 1, .aload_n 0, []), (153, 2, .bipush 40, []), (155, 3, .invokevirtual 467, [0, 212, 2, 13]), (158, 3, .ifCond .ne 11, []), (161, 1, .aload_n 0, []),
  (162, 1, .iconst 1, []), (163, 3, .invokevirtual 436, [0, 214, 2, 13]), (166, 3, .goto 22, []), (169, 1, .aload_n 0, []), (170, 2, .bipush 9, []), (172, 3, .invokevirtual 461, [0, 218, 2, 13]),
  (175, 3, .ifCond .eq 13, []), (178, 1, .aload_n 0, []), (179, 3, .getfield 173, [13, 77]), (182, 1, .aload_n 0, []), (183, 3, .getfield 430, [13, 58]), (186, 1, .iload_n 1, []),
  (187, 1, .iastore, []), (188, 3, .goto 8, []), (191, 1, .aload_n 0, []), (192, 1, .iconst 1, []), (193, 3, .invokevirtual 436, [0, 214, 2, 13]), (196, 1, .return_, [])]
set_option maxRecDepth 20000 in
def k_X12_oneIsOver : List az_I := [
  (0, 1, .aload_n 0, []), (1, 3, .invokevirtual 474, [0, 217, 1, 13]), (4, 2, .bipush 8, []), (6, 3, .if_icmp .ne 34, []), (9, 1, .aload_n 0, []), (10, 1, .dup, []),
  (11, 3, .getfield 430, [13, 58]), (14, 1, .iconst 1, []), (15, 1, .isub, []), (16, 3, .putfield 430, [13, 58]), (19, 1, .aload_n 0, []), (20, 1, .dup, []),
  (21, 3, .getfield 433, [13, 63]), (24, 1, .iconst 1, []), (25, 1, .isub, []), (26, 3, .putfield 433, [13, 63]), (29, 1, .aload_n 0, []), (30, 3, .sipush 402, []),
  (33, 1, .iconst 0, []), (34, 3, .invokevirtual 451, [0, 215, 3, 13]), (37, 3, .goto (-37), []), (40, 1, .aload_n 0, []), (41, 1, .iconst 2, []), (42, 3, .putfield 464, [13, 78]),
  (45, 1, .return_, [])]
set_option maxRecDepth 20000 in
def k_X12_askIsOver : List az_I := [
  (0, 1, .aload_n 0, []), (1, 3, .invokevirtual 474, [0, 217, 1, 13]), (4, 1, .iconst 4, []), (5, 3, .if_icmp .ne 34, []), (8, 1, .aload_n 0, []), (9, 1, .dup, []),
  (10, 3, .getfield 430, [13, 58]), (13, 1, .iconst 1, []), (14, 1, .isub, []), (15, 3, .putfield 430, [13, 58]), (18, 1, .aload_n 0, []), (19, 1, .dup, []),
  (20, 3, .getfield 433, [13, 63]), (23, 1, .iconst 1, []), (24, 1, .isub, []), (25, 3, .putfield 433, [13, 63]), (28, 1, .aload_n 0, []), (29, 3, .sipush 405, []),
  (32, 1, .iconst 0, []), (33, 3, .invokevirtual 451, [0, 215, 3, 13]), (36, 3, .goto (-36), []), (39, 1, .aload_n 0, []), (40, 1, .iconst 3, []), (41, 3, .putfield 464, [13, 78]),
  (44, 1, .return_, [])]
set_option maxRecDepth 20000 in
def k_X12_isAsking : List az_I := [
  (0, 1, .iload_n 0, []), (1, 2, .bipush 60, []), (3, 3, .if_icmp .eq 35, []), (6, 1, .iload_n 0, []), (7, 2, .bipush 62, []), (9, 3, .if_icmp .eq 29, []),
  (12, 1, .iload_n 0, []), (13, 2, .bipush 61, []), (15, 3, .if_icmp .eq 23, []), (18, 1, .iload_n 0, []), (19, 2, .bipush 35, []), (21, 3, .if_icmp .eq 17, []),
  (24, 1, .iload_n 0, []), (25, 3, .sipush 300, []), (28, 3, .if_icmp .eq 10, []), (31, 1, .iload_n 0, []), (32, 3, .sipush 301, []), (35, 3, .if_icmp .ne 7, []),
  (38, 1, .iconst 1, []), (39, 3, .goto 4, []), (42, 1, .iconst 0, []), (43, 1, .ireturn, [])]
set_option maxRecDepth 20000 in
def k_X12_goesOn : List az_I := [
  (0, 1, .aload_n 0, []), (1, 3, .invokevirtual 474, [0, 217, 1, 13]), (4, 1, .istore_n 1, []), (5, 1, .aload_n 0, []), (6, 3, .getfield 394, [13, 44]), (9, 1, .iconst 3, []),
  (10, 3, .if_icmp .ne 53, []), (13, 1, .aload_n 0, []), (14, 3, .getfield 406, [13, 45]), (17, 2, .bipush 43, []), (19, 3, .if_icmp .eq 30, []), (22, 1, .aload_n 0, []),
  (23, 3, .getfield 406, [13, 45]), (26, 2, .bipush 45, []), (28, 3, .if_icmp .eq 21, []), (31, 1, .aload_n 0, []), (32, 3, .getfield 406, [13, 45]), (35, 2, .bipush 42, []),
  (37, 3, .if_icmp .eq 12, []), (40, 1, .aload_n 0, []), (41, 3, .getfield 406, [13, 45]), (44, 2, .bipush 47, []), (46, 3, .if_icmp .ne 17, []), (49, 1, .aload_n 0, []),
  (50, 1, .aload_n 0, []), (51, 3, .getfield 406, [13, 45]), (54, 3, .invokevirtual 478, [0, 221, 2, 13]), (57, 1, .aload_n 0, []), (58, 1, .iconst 1, []), (59, 3, .putfield 464, [13, 78]),
  (62, 1, .return_, []), (63, 1, .iload_n 1, []), (64, 2, .bipush 7, []), (66, 3, .if_icmp .ne 12, []), (69, 1, .aload_n 0, []), (70, 2, .bipush 41, []),
  (72, 3, .invokevirtual 467, [0, 212, 2, 13]), (75, 3, .ifCond .ne 18, []), (78, 1, .iload_n 1, []), (79, 2, .bipush 10, []), (81, 3, .if_icmp .ne 83, []), (84, 1, .aload_n 0, []),
  (85, 2, .bipush 41, []), (87, 3, .invokevirtual 467, [0, 212, 2, 13]), (90, 3, .ifCond .eq 74, []), (93, 1, .aload_n 0, []), (94, 1, .iconst 3, []), (95, 3, .invokevirtual 455, [0, 220, 2, 13]),
  (98, 1, .aload_n 0, []), (99, 3, .getfield 173, [13, 77]), (102, 1, .aload_n 0, []), (103, 3, .getfield 430, [13, 58]), (106, 1, .iaload, []), (107, 1, .istore_n 2, []),
  (108, 1, .aload_n 0, []), (109, 1, .dup, []), (110, 3, .getfield 430, [13, 58]), (113, 1, .iconst 1, []), (114, 1, .isub, []), (115, 3, .putfield 430, [13, 58]),
  (118, 1, .aload_n 0, []), (119, 1, .dup, []), (120, 3, .getfield 433, [13, 63]), (123, 1, .iconst 1, []), (124, 1, .isub, []), (125, 3, .putfield 433, [13, 63]),
  (128, 1, .iload_n 1, []), (129, 2, .bipush 10, []), (131, 3, .if_icmp .ne 22, []), (134, 1, .aload_n 0, []), (135, 1, .iload_n 2, []), (136, 1, .iconst 5, []),
  (137, 3, .if_icmp .ne 9, []), (140, 3, .sipush 403, []), (143, 3, .goto 6, []), (146, 3, .sipush 404, []), (149, 1, .iconst 0, []), (150, 3, .invokevirtual 451, [0, 215, 3, 13]),
  (153, 1, .aload_n 0, []), (154, 3, .invokevirtual 442, [0, 210, 1, 13]), (157, 1, .aload_n 0, []), (158, 3, .invokevirtual 471, [0, 224, 1, 13]), (161, 3, .goto 212, []), (164, 1, .iload_n 1, []),
  (165, 2, .bipush 9, []), (167, 3, .if_icmp .ne 42, []), (170, 1, .aload_n 0, []), (171, 2, .bipush 44, []), (173, 3, .invokevirtual 467, [0, 212, 2, 13]), (176, 3, .ifCond .eq 33, []),
  (179, 1, .aload_n 0, []), (180, 1, .iconst 3, []), (181, 3, .invokevirtual 455, [0, 220, 2, 13]), (184, 1, .aload_n 0, []), (185, 3, .getfield 126, [13, 59]), (188, 1, .aload_n 0, []),
  (189, 3, .getfield 430, [13, 58]), (192, 1, .iconst 1, []), (193, 1, .isub, []), (194, 2, .bipush 10, []), (196, 1, .iastore, []), (197, 1, .aload_n 0, []),
  (198, 3, .invokevirtual 442, [0, 210, 1, 13]), (201, 1, .aload_n 0, []), (202, 1, .iconst 1, []), (203, 3, .putfield 464, [13, 78]), (206, 3, .goto 167, []), (209, 1, .iload_n 1, []),
  (210, 1, .iconst 5, []), (211, 3, .if_icmp .ne 64, []), (214, 1, .aload_n 0, []), (215, 3, .getfield 394, [13, 44]), (218, 1, .iconst 3, []), (219, 3, .if_icmp .ne 56, []),
  (222, 1, .aload_n 0, []), (223, 3, .getfield 406, [13, 45]), (226, 3, .invokestatic 481, [0, 226, 1, 999]), (229, 3, .ifCond .eq 46, []), (232, 1, .aload_n 0, []), (233, 1, .iconst 3, []),
  (234, 3, .invokevirtual 455, [0, 220, 2, 13]), (237, 1, .aload_n 0, []), (238, 3, .getfield 176, [13, 79]), (241, 1, .aload_n 0, []), (242, 3, .getfield 430, [13, 58]), (245, 1, .aload_n 0, []),
  (246, 3, .getfield 406, [13, 45]), (249, 1, .iastore, []), (250, 1, .aload_n 0, []), (251, 3, .getfield 126, [13, 59]), (254, 1, .aload_n 0, []), (255, 3, .getfield 430, [13, 58]),
  (258, 1, .iconst 1, []), (259, 1, .isub, []), (260, 2, .bipush 6, []), (262, 1, .iastore, []), (263, 1, .aload_n 0, []), (264, 3, .invokevirtual 442, [0, 210, 1, 13]),
  (267, 1, .aload_n 0, []), (268, 1, .iconst 1, []), (269, 3, .putfield 464, [13, 78]), (272, 3, .goto 101, []), (275, 1, .iload_n 1, []), (276, 2, .bipush 6, []),
  (278, 3, .if_icmp .ne 41, []), (281, 1, .aload_n 0, []), (282, 1, .iconst 3, []), (283, 3, .invokevirtual 455, [0, 220, 2, 13]), (286, 1, .aload_n 0, []), (287, 3, .getfield 176, [13, 79]),
  (290, 1, .aload_n 0, []), (291, 3, .getfield 430, [13, 58]), (294, 1, .iaload, []), (295, 1, .istore_n 2, []), (296, 1, .aload_n 0, []), (297, 1, .dup, []),
  (298, 3, .getfield 430, [13, 58]), (301, 1, .iconst 1, []), (302, 1, .isub, []), (303, 3, .putfield 430, [13, 58]), (306, 1, .aload_n 0, []), (307, 1, .iload_n 2, []),
  (308, 1, .iconst 0, []), (309, 3, .invokevirtual 451, [0, 215, 3, 13]), (312, 1, .aload_n 0, []), (313, 3, .invokevirtual 484, [0, 225, 1, 13]), (316, 3, .goto 57, []), (319, 1, .iload_n 1, []),
  (320, 1, .iconst 2, []), (321, 3, .if_icmp .ne 47, []), (324, 1, .aload_n 0, []), (325, 2, .bipush 59, []), (327, 3, .invokevirtual 467, [0, 212, 2, 13]), (330, 3, .ifCond .eq 38, []),
  (333, 1, .aload_n 0, []), (334, 1, .iconst 3, []), (335, 3, .invokevirtual 455, [0, 220, 2, 13]), (338, 1, .aload_n 0, []), (339, 1, .dup, []), (340, 3, .getfield 430, [13, 58]),
  (343, 1, .iconst 1, []), (344, 1, .isub, []), (345, 3, .putfield 430, [13, 58]), (348, 1, .aload_n 0, []), (349, 3, .sipush 409, []), (352, 1, .iconst 0, []),
  (353, 3, .invokevirtual 451, [0, 215, 3, 13]), (356, 1, .aload_n 0, []), (357, 3, .invokevirtual 442, [0, 210, 1, 13]), (360, 1, .aload_n 0, []), (361, 1, .iconst 4, []), (362, 3, .putfield 464, [13, 78]),
  (365, 3, .goto 8, []), (368, 1, .aload_n 0, []), (369, 1, .iconst 1, []), (370, 3, .invokevirtual 436, [0, 214, 2, 13]), (373, 1, .return_, [])]
set_option maxRecDepth 20000 in
def k_X12_asksOn : List az_I := [
  (0, 1, .aload_n 0, []), (1, 3, .invokevirtual 474, [0, 217, 1, 13]), (4, 1, .istore_n 1, []), (5, 1, .aload_n 0, []), (6, 1, .iconst 2, []), (7, 3, .invokevirtual 458, [0, 213, 2, 13]),
  (10, 3, .ifCond .ne 11, []), (13, 1, .aload_n 0, []), (14, 1, .iconst 3, []), (15, 3, .invokevirtual 458, [0, 213, 2, 13]), (18, 3, .ifCond .eq 32, []), (21, 1, .aload_n 0, []),
  (22, 1, .aload_n 0, []), (23, 1, .iconst 2, []), (24, 3, .invokevirtual 458, [0, 213, 2, 13]), (27, 3, .ifCond .eq 9, []), (30, 3, .sipush 407, []), (33, 3, .goto 6, []),
  (36, 3, .sipush 406, []), (39, 3, .invokevirtual 478, [0, 221, 2, 13]), (42, 1, .aload_n 0, []), (43, 1, .iconst 0, []), (44, 3, .putfield 464, [13, 78]), (47, 3, .goto 108, []),
  (50, 1, .iload_n 1, []), (51, 1, .iconst 3, []), (52, 3, .if_icmp .ne 48, []), (55, 1, .aload_n 0, []), (56, 2, .bipush 93, []), (58, 3, .invokevirtual 467, [0, 212, 2, 13]),
  (61, 3, .ifCond .eq 39, []), (64, 1, .aload_n 0, []), (65, 1, .iconst 1, []), (66, 3, .invokevirtual 455, [0, 220, 2, 13]), (69, 1, .aload_n 0, []), (70, 1, .dup, []),
  (71, 3, .getfield 430, [13, 58]), (74, 1, .iconst 1, []), (75, 1, .isub, []), (76, 3, .putfield 430, [13, 58]), (79, 1, .aload_n 0, []), (80, 1, .dup, []),
  (81, 3, .getfield 433, [13, 63]), (84, 1, .iconst 1, []), (85, 1, .isub, []), (86, 3, .putfield 433, [13, 63]), (89, 1, .aload_n 0, []), (90, 3, .invokevirtual 442, [0, 210, 1, 13]),
  (93, 1, .aload_n 0, []), (94, 3, .invokevirtual 484, [0, 225, 1, 13]), (97, 3, .goto 58, []), (100, 1, .iload_n 1, []), (101, 1, .iconst 1, []), (102, 3, .if_icmp .ne 48, []),
  (105, 1, .aload_n 0, []), (106, 1, .iconst 1, []), (107, 3, .invokevirtual 458, [0, 213, 2, 13]), (110, 3, .ifCond .eq 40, []), (113, 1, .aload_n 0, []), (114, 1, .iconst 1, []),
  (115, 3, .invokevirtual 455, [0, 220, 2, 13]), (118, 1, .aload_n 0, []), (119, 3, .sipush 408, []), (122, 1, .iconst 0, []), (123, 3, .invokevirtual 451, [0, 215, 3, 13]), (126, 1, .aload_n 0, []),
  (127, 3, .getfield 126, [13, 59]), (130, 1, .aload_n 0, []), (131, 3, .getfield 430, [13, 58]), (134, 1, .iconst 1, []), (135, 1, .isub, []), (136, 1, .iconst 2, []),
  (137, 1, .iastore, []), (138, 1, .aload_n 0, []), (139, 3, .invokevirtual 442, [0, 210, 1, 13]), (142, 1, .aload_n 0, []), (143, 1, .iconst 1, []), (144, 3, .putfield 464, [13, 78]),
  (147, 3, .goto 8, []), (150, 1, .aload_n 0, []), (151, 1, .iconst 1, []), (152, 3, .invokevirtual 436, [0, 214, 2, 13]), (155, 1, .return_, [])]
set_option maxRecDepth 20000 in
def k_X12_rule : List az_I := [
  (0, 1, .aload_n 0, []), (1, 1, .iconst 0, []), (2, 3, .invokevirtual 458, [0, 213, 2, 13]), (5, 3, .ifCond .ne 17, []), (8, 1, .aload_n 0, []), (9, 1, .iconst 1, []),
  (10, 3, .invokevirtual 458, [0, 213, 2, 13]), (13, 3, .ifCond .ne 9, []), (16, 1, .aload_n 0, []), (17, 1, .iconst 1, []), (18, 3, .invokevirtual 436, [0, 214, 2, 13]), (21, 1, .return_, []),
  (22, 1, .aload_n 0, []), (23, 3, .getfield 487, [13, 51]), (26, 2, .bipush 20, []), (28, 3, .if_icmp .ne 9, []), (31, 1, .aload_n 0, []), (32, 1, .iconst 4, []),
  (33, 3, .invokevirtual 436, [0, 214, 2, 13]), (36, 1, .return_, []), (37, 1, .aload_n 0, []), (38, 1, .dup, []), (39, 3, .getfield 487, [13, 51]), (42, 1, .iconst 1, []),
  (43, 1, .iadd, []), (44, 3, .putfield 487, [13, 51]), (47, 1, .aload_n 0, []), (48, 1, .iconst 0, []), (49, 3, .invokevirtual 458, [0, 213, 2, 13]), (52, 1, .istore_n 1, []),
  (53, 1, .aload_n 0, []), (54, 1, .iload_n 1, []), (55, 3, .ifCond .eq 7, []), (58, 1, .iconst 1, []), (59, 3, .goto 4, []), (62, 1, .iconst 2, []),
  (63, 3, .invokevirtual 439, [0, 216, 2, 13]), (66, 1, .aload_n 0, []), (67, 1, .iload_n 1, []), (68, 3, .ifCond .eq 7, []), (71, 1, .iconst 0, []), (72, 3, .goto 4, []),
  (75, 1, .iconst 1, []), (76, 3, .putfield 464, [13, 78]), (79, 1, .aload_n 0, []), (80, 3, .invokevirtual 442, [0, 210, 1, 13]), (83, 1, .return_, [])]
set_option maxRecDepth 20000 in
def k_X12_tariff : List az_I := [
  (0, 1, .aload_n 0, []), (1, 1, .aload_n 0, []), (2, 3, .getfield 340, [13, 40]), (5, 3, .putfield 388, [13, 41]), (8, 1, .aload_n 0, []), (9, 1, .iconst 0, []),
  (10, 3, .putfield 340, [13, 40]), (13, 1, .aload_n 0, []), (14, 1, .iconst 0, []), (15, 3, .putfield 385, [13, 42]), (18, 1, .aload_n 0, []), (19, 1, .iconst 0, []),
  (20, 3, .putfield 421, [13, 46]), (23, 1, .aload_n 0, []), (24, 1, .iconst (-1), []), (25, 3, .putfield 424, [13, 47]), (28, 1, .aload_n 0, []), (29, 1, .iconst 0, []),
  (30, 3, .putfield 427, [13, 50]), (33, 1, .aload_n 0, []), (34, 1, .iconst 0, []), (35, 3, .putfield 487, [13, 51]), (38, 1, .aload_n 0, []), (39, 1, .iconst 0, []),
  (40, 3, .putfield 430, [13, 58]), (43, 1, .aload_n 0, []), (44, 1, .iconst 0, []), (45, 3, .putfield 445, [13, 60]), (48, 1, .aload_n 0, []), (49, 1, .iconst 0, []),
  (50, 3, .putfield 433, [13, 63]), (53, 1, .aload_n 0, []), (54, 1, .iconst 4, []), (55, 3, .putfield 464, [13, 78]), (58, 1, .aload_n 0, []), (59, 3, .invokevirtual 442, [0, 210, 1, 13]),
  (62, 1, .aload_n 0, []), (63, 3, .getfield 421, [13, 46]), (66, 3, .ifCond .ne 89, []), (69, 1, .aload_n 0, []), (70, 3, .getfield 464, [13, 78]), (73, 1, .iconst 4, []),
  (74, 3, .if_icmp .ne 10, []), (77, 1, .aload_n 0, []), (78, 3, .getfield 394, [13, 44]), (81, 3, .ifCond .eq 74, []), (84, 1, .aload_n 0, []), (85, 3, .getfield 464, [13, 78]),
  (88, 32, .tableswitch 60 0 3 #[32, 39, 46, 53], []), (120, 1, .aload_n 0, []), (121, 3, .invokevirtual 490, [0, 222, 1, 13]), (124, 3, .goto (-62), []), (127, 1, .aload_n 0, []), (128, 3, .invokevirtual 493, [0, 223, 1, 13]),
  (131, 3, .goto (-69), []), (134, 1, .aload_n 0, []), (135, 3, .invokevirtual 496, [0, 227, 1, 13]), (138, 3, .goto (-76), []), (141, 1, .aload_n 0, []), (142, 3, .invokevirtual 499, [0, 228, 1, 13]),
  (145, 3, .goto (-83), []), (148, 1, .aload_n 0, []), (149, 3, .invokevirtual 502, [0, 229, 1, 13]), (152, 3, .goto (-90), []), (155, 1, .aload_n 0, []), (156, 1, .aload_n 0, []),
  (157, 3, .getfield 421, [13, 46]), (160, 3, .putfield 107, [13, 48]), (163, 1, .aload_n 0, []), (164, 1, .aload_n 0, []), (165, 3, .getfield 424, [13, 47]), (168, 3, .putfield 111, [13, 49]),
  (171, 1, .aload_n 0, []), (172, 3, .getfield 421, [13, 46]), (175, 3, .ifCond .le 5, []), (178, 1, .iconst (-1), []), (179, 1, .ireturn, []), (180, 1, .aload_n 0, []),
  (181, 1, .aload_n 0, []), (182, 3, .getfield 427, [13, 50]), (185, 3, .putfield 505, [13, 54]), (188, 1, .aload_n 0, []), (189, 1, .aload_n 0, []), (190, 3, .getfield 487, [13, 51]),
  (193, 3, .putfield 508, [13, 55]), (196, 1, .iconst 0, []), (197, 1, .istore_n 1, []), (198, 1, .iload_n 1, []), (199, 1, .aload_n 0, []), (200, 3, .getfield 427, [13, 50]),
  (203, 3, .if_icmp .ge 33, []), (206, 1, .aload_n 0, []), (207, 3, .getfield 120, [13, 56]), (210, 1, .iload_n 1, []), (211, 1, .aload_n 0, []), (212, 3, .getfield 114, [13, 52]),
  (215, 1, .iload_n 1, []), (216, 1, .iaload, []), (217, 1, .iastore, []), (218, 1, .aload_n 0, []), (219, 3, .getfield 123, [13, 57]), (222, 1, .iload_n 1, []),
  (223, 1, .aload_n 0, []), (224, 3, .getfield 117, [13, 53]), (227, 1, .iload_n 1, []), (228, 1, .iaload, []), (229, 1, .iastore, []), (230, 3, .iinc 1 1, []),
  (233, 3, .goto (-35), []), (236, 1, .aload_n 0, []), (237, 3, .getfield 508, [13, 55]), (240, 1, .ireturn, [])]
set_option maxRecDepth 20000 in
def k_X12_fault : List az_I := [
  (0, 1, .iload_n 1, []), (1, 3, .ifCond .ne 10, []), (4, 1, .aload_n 0, []), (5, 3, .getfield 107, [13, 48]), (8, 3, .goto 16, []), (11, 1, .iload_n 1, []),
  (12, 1, .iconst 1, []), (13, 3, .if_icmp .ne 10, []), (16, 1, .aload_n 0, []), (17, 3, .getfield 111, [13, 49]), (20, 3, .goto 4, []), (23, 1, .iconst (-1), []),
  (24, 1, .ireturn, [])]
set_option maxRecDepth 20000 in
def k_X12_bound : List az_I := [
  (0, 1, .lload_n 0, []), (1, 3, .ldc2_w 511, [1000000000]), (4, 1, .lcmp, []), (5, 3, .ifCond .le 9, []), (8, 3, .ldc2_w 511, [1000000000]), (11, 3, .goto 18, []),
  (14, 1, .lload_n 0, []), (15, 3, .ldc2_w 513, [18446744072709551616]), (18, 1, .lcmp, []), (19, 3, .ifCond .ge 9, []), (22, 3, .ldc2_w 513, [18446744072709551616]), (25, 3, .goto 4, []),
  (28, 1, .lload_n 0, []), (29, 1, .lreturn, [])]
set_option maxRecDepth 20000 in
def k_X12_worked : List az_I := [
  (0, 1, .iload_n 0, []), (1, 115, .lookupswitch 250 #[(35, 210), (42, 129), (43, 115), (45, 122), (47, 136), (60, 174), (61, 198), (62, 186), (300, 222), (301, 234), (403, 150), (404, 162), (406, 246)], []), (116, 1, .lload_n 1, []), (117, 1, .lload_n 3, []), (118, 1, .ladd, []), (119, 3, .invokestatic 515, [0, 232, 1, 999]),
  (122, 1, .lreturn, []), (123, 1, .lload_n 1, []), (124, 1, .lload_n 3, []), (125, 1, .lsub, []), (126, 3, .invokestatic 515, [0, 232, 1, 999]), (129, 1, .lreturn, []),
  (130, 1, .lload_n 1, []), (131, 1, .lload_n 3, []), (132, 1, .lmul, []), (133, 3, .invokestatic 515, [0, 232, 1, 999]), (136, 1, .lreturn, []), (137, 1, .lload_n 3, []),
  (138, 1, .lconst 0, []), (139, 1, .lcmp, []), (140, 3, .ifCond .ne 7, []), (143, 1, .lconst 0, []), (144, 3, .goto 6, []), (147, 1, .lload_n 1, []),
  (148, 1, .lload_n 3, []), (149, 1, .ldiv, []), (150, 1, .lreturn, []), (151, 1, .lload_n 1, []), (152, 1, .lload_n 3, []), (153, 1, .lcmp, []),
  (154, 3, .ifCond .ge 7, []), (157, 1, .lload_n 1, []), (158, 3, .goto 4, []), (161, 1, .lload_n 3, []), (162, 1, .lreturn, []), (163, 1, .lload_n 1, []),
  (164, 1, .lload_n 3, []), (165, 1, .lcmp, []), (166, 3, .ifCond .le 7, []), (169, 1, .lload_n 1, []), (170, 3, .goto 4, []), (173, 1, .lload_n 3, []),
  (174, 1, .lreturn, []), (175, 1, .lload_n 1, []), (176, 1, .lload_n 3, []), (177, 1, .lcmp, []), (178, 3, .ifCond .ge 7, []), (181, 1, .lconst 1, []),
  (182, 3, .goto 4, []), (185, 1, .lconst 0, []), (186, 1, .lreturn, []), (187, 1, .lload_n 1, []), (188, 1, .lload_n 3, []), (189, 1, .lcmp, []),
  (190, 3, .ifCond .le 7, []), (193, 1, .lconst 1, []), (194, 3, .goto 4, []), (197, 1, .lconst 0, []), (198, 1, .lreturn, []), (199, 1, .lload_n 1, []),
  (200, 1, .lload_n 3, []), (201, 1, .lcmp, []), (202, 3, .ifCond .ne 7, []), (205, 1, .lconst 1, []), (206, 3, .goto 4, []), (209, 1, .lconst 0, []),
  (210, 1, .lreturn, []), (211, 1, .lload_n 1, []), (212, 1, .lload_n 3, []), (213, 1, .lcmp, []), (214, 3, .ifCond .eq 7, []), (217, 1, .lconst 1, []),
  (218, 3, .goto 4, []), (221, 1, .lconst 0, []), (222, 1, .lreturn, []), (223, 1, .lload_n 1, []), (224, 1, .lload_n 3, []), (225, 1, .lcmp, []),
  (226, 3, .ifCond .gt 7, []), (229, 1, .lconst 1, []), (230, 3, .goto 4, []), (233, 1, .lconst 0, []), (234, 1, .lreturn, []), (235, 1, .lload_n 1, []),
  (236, 1, .lload_n 3, []), (237, 1, .lcmp, []), (238, 3, .ifCond .lt 7, []), (241, 1, .lconst 1, []), (242, 3, .goto 4, []), (245, 1, .lconst 0, []),
  (246, 1, .lreturn, []), (247, 1, .lload_n 1, []), (248, 1, .lload_n 3, []), (249, 1, .lmul, []), (250, 1, .lreturn, []), (251, 1, .lload_n 1, []),
  (252, 1, .lload_n 3, []), (253, 1, .ladd, []), (254, 1, .lconst 0, []), (255, 1, .lcmp, []), (256, 3, .ifCond .le 7, []), (259, 1, .lconst 1, []),
  (260, 3, .goto 4, []), (263, 1, .lconst 0, []), (264, 1, .lreturn, [])]
set_option maxRecDepth 20000 in
def k_X12_given : List az_I := [
  (0, 1, .iconst 0, []), (1, 1, .istore_n 1, []), (2, 1, .iconst 0, []), (3, 1, .istore_n 2, []), (4, 1, .iconst 0, []), (5, 1, .istore_n 3, []),
  (6, 1, .iload_n 3, []), (7, 1, .aload_n 0, []), (8, 3, .getfield 505, [13, 54]), (11, 3, .if_icmp .ge 234, []), (14, 1, .aload_n 0, []), (15, 3, .getfield 120, [13, 56]),
  (18, 1, .iload_n 3, []), (19, 1, .iaload, []), (20, 2, .istore 4, []), (22, 1, .iload_n 2, []), (23, 3, .ifCond .eq 22, []), (26, 2, .iload 4, []),
  (28, 3, .sipush 409, []), (31, 3, .if_icmp .eq 7, []), (34, 1, .iconst 1, []), (35, 3, .goto 4, []), (38, 1, .iconst 0, []), (39, 1, .istore_n 2, []),
  (40, 1, .iconst 0, []), (41, 1, .istore_n 1, []), (42, 3, .goto 197, []), (45, 2, .iload 4, []), (47, 3, .sipush 400, []), (50, 3, .if_icmp .ne 22, []),
  (53, 1, .aload_n 0, []), (54, 3, .getfield 135, [13, 64]), (57, 1, .iload_n 1, []), (58, 1, .aload_n 0, []), (59, 3, .getfield 123, [13, 57]), (62, 1, .iload_n 3, []),
  (63, 1, .iaload, []), (64, 1, .i2l, []), (65, 1, .lastore, []), (66, 3, .iinc 1 1, []), (69, 3, .goto 170, []), (72, 2, .iload 4, []),
  (74, 3, .sipush 401, []), (77, 3, .if_icmp .ne 27, []), (80, 1, .aload_n 0, []), (81, 3, .getfield 135, [13, 64]), (84, 1, .iload_n 1, []), (85, 1, .aload_n 0, []),
  (86, 3, .getfield 139, [13, 65]), (89, 1, .aload_n 0, []), (90, 3, .getfield 123, [13, 57]), (93, 1, .iload_n 3, []), (94, 1, .iaload, []), (95, 1, .iaload, []),
  (96, 1, .i2l, []), (97, 1, .lastore, []), (98, 3, .iinc 1 1, []), (101, 3, .goto 138, []), (104, 2, .iload 4, []), (106, 3, .sipush 402, []),
  (109, 3, .if_icmp .ne 23, []), (112, 1, .aload_n 0, []), (113, 3, .getfield 135, [13, 64]), (116, 1, .iload_n 1, []), (117, 1, .iconst 1, []), (118, 1, .isub, []),
  (119, 1, .aload_n 0, []), (120, 3, .getfield 135, [13, 64]), (123, 1, .iload_n 1, []), (124, 1, .iconst 1, []), (125, 1, .isub, []), (126, 1, .laload, []),
  (127, 1, .lneg, []), (128, 1, .lastore, []), (129, 3, .goto 110, []), (132, 2, .iload 4, []), (134, 3, .sipush 405, []), (137, 3, .if_icmp .ne 24, []),
  (140, 1, .aload_n 0, []), (141, 3, .getfield 135, [13, 64]), (144, 1, .iload_n 1, []), (145, 1, .iconst 1, []), (146, 1, .isub, []), (147, 1, .lconst 1, []),
  (148, 1, .aload_n 0, []), (149, 3, .getfield 135, [13, 64]), (152, 1, .iload_n 1, []), (153, 1, .iconst 1, []), (154, 1, .isub, []), (155, 1, .laload, []),
  (156, 1, .lsub, []), (157, 1, .lastore, []), (158, 3, .goto 81, []), (161, 2, .iload 4, []), (163, 3, .sipush 408, []), (166, 3, .if_icmp .ne 26, []),
  (169, 3, .iinc 1 (-1), []), (172, 1, .aload_n 0, []), (173, 3, .getfield 135, [13, 64]), (176, 1, .iload_n 1, []), (177, 1, .laload, []), (178, 1, .lconst 0, []),
  (179, 1, .lcmp, []), (180, 3, .ifCond .ne 7, []), (183, 1, .iconst 1, []), (184, 3, .goto 4, []), (187, 1, .iconst 0, []), (188, 1, .istore_n 2, []),
  (189, 3, .goto 50, []), (192, 2, .iload 4, []), (194, 3, .sipush 409, []), (197, 3, .if_icmp .ne 12, []), (200, 1, .aload_n 0, []), (201, 3, .getfield 135, [13, 64]),
  (204, 1, .iload_n 1, []), (205, 1, .iconst 1, []), (206, 1, .isub, []), (207, 1, .laload, []), (208, 1, .lreturn, []), (209, 3, .iinc 1 (-1), []),
  (212, 1, .aload_n 0, []), (213, 3, .getfield 135, [13, 64]), (216, 1, .iload_n 1, []), (217, 1, .iconst 1, []), (218, 1, .isub, []), (219, 2, .iload 4, []),
  (221, 1, .aload_n 0, []), (222, 3, .getfield 135, [13, 64]), (225, 1, .iload_n 1, []), (226, 1, .iconst 1, []), (227, 1, .isub, []), (228, 1, .laload, []),
  (229, 1, .aload_n 0, []), (230, 3, .getfield 135, [13, 64]), (233, 1, .iload_n 1, []), (234, 1, .laload, []), (235, 3, .invokestatic 519, [0, 233, 3, 999]), (238, 1, .lastore, []),
  (239, 3, .iinc 3 1, []), (242, 3, .goto (-236), []), (245, 1, .lconst 0, []), (246, 1, .lreturn, [])]
