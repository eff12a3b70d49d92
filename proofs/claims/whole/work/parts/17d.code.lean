set_option maxRecDepth 20000 in
def k_X12_gives : List az_I := [
  (0, 1, .aload_n 0, []), (1, 3, .getfield 139, [13, 65]), (4, 1, .iconst 0, []), (5, 1, .iload_n 1, []), (6, 1, .iastore, []), (7, 1, .aload_n 0, []),
  (8, 3, .getfield 139, [13, 65]), (11, 1, .iconst 1, []), (12, 1, .iload_n 2, []), (13, 1, .iastore, []), (14, 1, .aload_n 0, []), (15, 3, .getfield 139, [13, 65]),
  (18, 1, .iconst 2, []), (19, 1, .iconst 0, []), (20, 1, .iastore, []), (21, 1, .aload_n 0, []), (22, 3, .getfield 139, [13, 65]), (25, 1, .iconst 3, []),
  (26, 1, .iload_n 3, []), (27, 1, .iastore, []), (28, 1, .aload_n 0, []), (29, 3, .getfield 139, [13, 65]), (32, 1, .iconst 4, []), (33, 2, .iload 4, []),
  (35, 1, .iastore, []), (36, 1, .aload_n 0, []), (37, 3, .getfield 139, [13, 65]), (40, 1, .iconst 5, []), (41, 2, .iload 5, []), (43, 1, .iastore, []),
  (44, 1, .aload_n 0, []), (45, 3, .getfield 139, [13, 65]), (48, 2, .bipush 6, []), (50, 2, .iload 6, []), (52, 1, .iastore, []), (53, 1, .aload_n 0, []),
  (54, 3, .getfield 139, [13, 65]), (57, 2, .bipush 7, []), (59, 1, .iconst 0, []), (60, 1, .iastore, []), (61, 1, .iconst 0, []), (62, 2, .istore 7, []),
  (64, 2, .iload 7, []), (66, 2, .bipush 8, []), (68, 3, .if_icmp .ge 33, []), (71, 1, .aload_n 0, []), (72, 3, .getfield 139, [13, 65]), (75, 2, .iload 7, []),
  (77, 1, .iaload, []), (78, 1, .i2l, []), (79, 3, .ldc2_w 523, [18446744073708551616]), (82, 3, .ldc2_w 525, [1000000]), (85, 3, .invokestatic 211, [0, 159, 3, 999]), (88, 3, .ifCond .ne 7, []),
  (91, 3, .ldc_w 527, [0, 2294967296]), (94, 1, .ireturn, []), (95, 3, .iinc 7 1, []), (98, 3, .goto (-34), []), (101, 1, .aload_n 0, []), (102, 3, .invokevirtual 528, [0, 234, 1, 13]),
  (105, 1, .l2i, []), (106, 1, .ireturn, [])]
set_option maxRecDepth 20000 in
def k_X12_stall : List az_I := [
  (0, 1, .aload_n 0, []), (1, 1, .iload_n 1, []), (2, 3, .invokevirtual 246, [0, 163, 2, 13]), (5, 3, .ifCond .eq 32, []), (8, 1, .iload_n 2, []), (9, 3, .invokestatic 239, [0, 160, 1, 999]),
  (12, 3, .ifCond .eq 25, []), (15, 1, .iload_n 3, []), (16, 1, .i2l, []), (17, 1, .iload_n 2, []), (18, 1, .i2l, []), (19, 3, .ldc2_w 209, [3599]),
  (22, 3, .invokestatic 211, [0, 159, 3, 999]), (25, 3, .ifCond .eq 12, []), (28, 1, .aload_n 0, []), (29, 3, .getfield 254, [13, 66]), (32, 2, .bipush 10, []), (34, 3, .if_icmp .ne 5, []),
  (37, 1, .iconst (-1), []), (38, 1, .ireturn, []), (39, 1, .aload_n 0, []), (40, 3, .getfield 142, [13, 67]), (43, 1, .aload_n 0, []), (44, 3, .getfield 254, [13, 66]),
  (47, 1, .iload_n 1, []), (48, 1, .iastore, []), (49, 1, .aload_n 0, []), (50, 3, .getfield 145, [13, 68]), (53, 1, .aload_n 0, []), (54, 3, .getfield 254, [13, 66]),
  (57, 1, .iload_n 2, []), (58, 1, .iastore, []), (59, 1, .aload_n 0, []), (60, 3, .getfield 148, [13, 69]), (63, 1, .aload_n 0, []), (64, 3, .getfield 254, [13, 66]),
  (67, 1, .iload_n 3, []), (68, 1, .iastore, []), (69, 1, .iconst 0, []), (70, 2, .istore 4, []), (72, 2, .iload 4, []), (74, 2, .bipush 12, []),
  (76, 3, .if_icmp .ge 25, []), (79, 1, .aload_n 0, []), (80, 3, .getfield 151, [13, 70]), (83, 2, .bipush 12, []), (85, 1, .aload_n 0, []), (86, 3, .getfield 254, [13, 66]),
  (89, 1, .imul, []), (90, 2, .iload 4, []), (92, 1, .iadd, []), (93, 1, .iconst (-1), []), (94, 1, .iastore, []), (95, 3, .iinc 4 1, []),
  (98, 3, .goto (-26), []), (101, 1, .aload_n 0, []), (102, 1, .dup, []), (103, 3, .getfield 254, [13, 66]), (106, 1, .iconst 1, []), (107, 1, .iadd, []),
  (108, 3, .putfield 254, [13, 66]), (111, 1, .aload_n 0, []), (112, 3, .getfield 254, [13, 66]), (115, 1, .iconst 1, []), (116, 1, .isub, []), (117, 1, .ireturn, [])]
set_option maxRecDepth 20000 in
def k_X12_mayPlace : List az_I := [
  (0, 1, .iconst 1, []), (1, 2, .istore 4, []), (3, 1, .aload_n 0, []), (4, 3, .getfield 145, [13, 68]), (7, 1, .iload_n 1, []), (8, 1, .iaload, []),
  (9, 1, .aload_n 0, []), (10, 3, .getfield 225, [13, 3]), (13, 3, .if_icmp .le 12, []), (16, 1, .aload_n 0, []), (17, 3, .getfield 145, [13, 68]), (20, 1, .iload_n 1, []),
  (21, 1, .iaload, []), (22, 3, .goto 7, []), (25, 1, .aload_n 0, []), (26, 3, .getfield 225, [13, 3]), (29, 2, .istore 5, []), (31, 2, .iload 5, []),
  (33, 1, .aload_n 0, []), (34, 3, .getfield 148, [13, 69]), (37, 1, .iload_n 1, []), (38, 1, .iaload, []), (39, 3, .if_icmp .gt 27, []), (42, 2, .iload 4, []),
  (44, 3, .ifCond .eq 22, []), (47, 1, .aload_n 0, []), (48, 1, .iload_n 3, []), (49, 2, .iload 5, []), (51, 1, .aload_n 0, []), (52, 3, .getfield 225, [13, 3]),
  (55, 3, .invokevirtual 532, [0, 183, 4, 13]), (58, 2, .istore 4, []), (60, 3, .iinc 5 1, []), (63, 3, .goto (-32), []), (66, 1, .iconst 0, []), (67, 2, .istore 5, []),
  (69, 2, .iload 5, []), (71, 1, .aload_n 0, []), (72, 3, .getfield 254, [13, 66]), (75, 3, .if_icmp .ge 75, []), (78, 2, .iload 4, []), (80, 3, .ifCond .eq 70, []),
  (83, 2, .iload 5, []), (85, 1, .iload_n 1, []), (86, 3, .if_icmp .eq 51, []), (89, 1, .aload_n 0, []), (90, 3, .getfield 151, [13, 70]), (93, 2, .bipush 12, []),
  (95, 2, .iload 5, []), (97, 1, .imul, []), (98, 1, .iload_n 2, []), (99, 1, .iadd, []), (100, 1, .iaload, []), (101, 1, .iload_n 3, []),
  (102, 3, .if_icmp .ne 35, []), (105, 1, .aload_n 0, []), (106, 3, .getfield 148, [13, 69]), (109, 2, .iload 5, []), (111, 1, .iaload, []), (112, 1, .aload_n 0, []),
  (113, 3, .getfield 145, [13, 68]), (116, 1, .iload_n 1, []), (117, 1, .iaload, []), (118, 3, .if_icmp .lt 19, []), (121, 1, .aload_n 0, []), (122, 3, .getfield 145, [13, 68]),
  (125, 2, .iload 5, []), (127, 1, .iaload, []), (128, 1, .aload_n 0, []), (129, 3, .getfield 148, [13, 69]), (132, 1, .iload_n 1, []), (133, 1, .iaload, []),
  (134, 3, .if_icmp .le 7, []), (137, 1, .iconst 1, []), (138, 3, .goto 4, []), (141, 1, .iconst 0, []), (142, 2, .istore 4, []), (144, 3, .iinc 5 1, []),
  (147, 3, .goto (-78), []), (150, 2, .iload 4, []), (152, 1, .ireturn, [])]
set_option maxRecDepth 20000 in
def k_X12_place : List az_I := [
  (0, 1, .iload_n 1, []), (1, 1, .i2l, []), (2, 1, .lconst 0, []), (3, 1, .aload_n 0, []), (4, 3, .getfield 254, [13, 66]), (7, 1, .iconst 1, []),
  (8, 1, .isub, []), (9, 1, .i2l, []), (10, 3, .invokestatic 211, [0, 159, 3, 999]), (13, 3, .ifCond .eq 33, []), (16, 1, .iload_n 2, []), (17, 3, .invokestatic 228, [0, 161, 1, 999]),
  (20, 3, .ifCond .eq 26, []), (23, 1, .iload_n 3, []), (24, 1, .iconst (-1), []), (25, 3, .if_icmp .eq 23, []), (28, 1, .aload_n 0, []), (29, 1, .iload_n 3, []),
  (30, 3, .invokevirtual 249, [0, 162, 2, 13]), (33, 3, .ifCond .eq 13, []), (36, 1, .aload_n 0, []), (37, 1, .iload_n 1, []), (38, 1, .iload_n 2, []), (39, 1, .iload_n 3, []),
  (40, 3, .invokevirtual 535, [0, 237, 4, 13]), (43, 3, .ifCond .ne 5, []), (46, 1, .iconst 0, []), (47, 1, .ireturn, []), (48, 1, .aload_n 0, []), (49, 3, .getfield 151, [13, 70]),
  (52, 2, .bipush 12, []), (54, 1, .iload_n 1, []), (55, 1, .imul, []), (56, 1, .iload_n 2, []), (57, 1, .iadd, []), (58, 1, .iload_n 3, []),
  (59, 1, .iastore, []), (60, 1, .iconst 1, []), (61, 1, .ireturn, [])]
set_option maxRecDepth 20000 in
def k_X12_placeOf : List az_I := [
  (0, 1, .iload_n 1, []), (1, 1, .i2l, []), (2, 1, .lconst 0, []), (3, 1, .aload_n 0, []), (4, 3, .getfield 254, [13, 66]), (7, 1, .iconst 1, []),
  (8, 1, .isub, []), (9, 1, .i2l, []), (10, 3, .invokestatic 211, [0, 159, 3, 999]), (13, 3, .ifCond .eq 24, []), (16, 1, .iload_n 2, []), (17, 3, .invokestatic 228, [0, 161, 1, 999]),
  (20, 3, .ifCond .eq 17, []), (23, 1, .aload_n 0, []), (24, 3, .getfield 151, [13, 70]), (27, 2, .bipush 12, []), (29, 1, .iload_n 1, []), (30, 1, .imul, []),
  (31, 1, .iload_n 2, []), (32, 1, .iadd, []), (33, 1, .iaload, []), (34, 3, .goto 4, []), (37, 1, .iconst (-1), []), (38, 1, .ireturn, [])]
set_option maxRecDepth 20000 in
def k_X12_charge : List az_I := [
  (0, 1, .lconst 0, []), (1, 2, .lstore 6, []), (3, 1, .iconst 0, []), (4, 2, .istore 8, []), (6, 2, .iload 8, []), (8, 1, .aload_n 0, []),
  (9, 3, .getfield 220, [13, 12]), (12, 3, .if_icmp .ge 148, []), (15, 1, .aload_n 0, []), (16, 3, .getfield 158, [13, 72]), (19, 1, .iload_n 1, []), (20, 1, .iaload, []),
  (21, 2, .iload 8, []), (23, 1, .ishr, []), (24, 1, .iconst 1, []), (25, 1, .iand, []), (26, 3, .ifCond .eq 128, []), (29, 2, .iload 5, []),
  (31, 1, .iconst (-1), []), (32, 3, .if_icmp .eq 18, []), (35, 1, .aload_n 0, []), (36, 3, .getfield 170, [13, 76]), (39, 2, .iload 8, []), (41, 1, .iaload, []),
  (42, 2, .iload 5, []), (44, 3, .if_icmp .eq 6, []), (47, 3, .goto 107, []), (50, 1, .aload_n 0, []), (51, 3, .getfield 139, [13, 65]), (54, 1, .iconst 0, []),
  (55, 1, .iload_n 3, []), (56, 1, .iastore, []), (57, 1, .aload_n 0, []), (58, 3, .getfield 139, [13, 65]), (61, 1, .iconst 1, []), (62, 1, .iload_n 2, []),
  (63, 3, .invokestatic 285, [0, 165, 1, 999]), (66, 1, .iastore, []), (67, 1, .aload_n 0, []), (68, 3, .getfield 139, [13, 65]), (71, 1, .iconst 2, []), (72, 1, .iload_n 2, []),
  (73, 1, .iastore, []), (74, 1, .aload_n 0, []), (75, 3, .getfield 139, [13, 65]), (78, 1, .iconst 3, []), (79, 1, .aload_n 0, []), (80, 3, .getfield 167, [13, 75]),
  (83, 2, .iload 8, []), (85, 1, .iaload, []), (86, 1, .iastore, []), (87, 1, .aload_n 0, []), (88, 3, .getfield 139, [13, 65]), (91, 1, .iconst 4, []),
  (92, 1, .aload_n 0, []), (93, 3, .getfield 161, [13, 73]), (96, 1, .iload_n 1, []), (97, 1, .iaload, []), (98, 1, .iastore, []), (99, 1, .aload_n 0, []),
  (100, 3, .getfield 139, [13, 65]), (103, 1, .iconst 5, []), (104, 1, .aload_n 0, []), (105, 3, .getfield 28, [13, 13]), (108, 2, .iload 8, []), (110, 1, .iaload, []),
  (111, 1, .iastore, []), (112, 1, .aload_n 0, []), (113, 3, .getfield 139, [13, 65]), (116, 2, .bipush 6, []), (118, 2, .iload 8, []), (120, 1, .iastore, []),
  (121, 1, .aload_n 0, []), (122, 3, .getfield 139, [13, 65]), (125, 2, .bipush 7, []), (127, 2, .iload 4, []), (129, 1, .iastore, []), (130, 1, .aload_n 0, []),
  (131, 3, .invokevirtual 528, [0, 234, 1, 13]), (134, 2, .lstore 9, []), (136, 2, .lload 6, []), (138, 2, .lload 9, []), (140, 1, .lconst 0, []), (141, 1, .lcmp, []),
  (142, 3, .ifCond .ge 7, []), (145, 1, .lconst 0, []), (146, 3, .goto 5, []), (149, 2, .lload 9, []), (151, 1, .ladd, []), (152, 2, .lstore 6, []),
  (154, 3, .iinc 8 1, []), (157, 3, .goto (-151), []), (160, 2, .lload 6, []), (162, 1, .lreturn, [])]
set_option maxRecDepth 20000 in
def k_X12_fees : List az_I := [
  (0, 1, .iload_n 1, []), (1, 1, .i2l, []), (2, 1, .lconst 0, []), (3, 1, .aload_n 0, []), (4, 3, .getfield 254, [13, 66]), (7, 1, .iconst 1, []),
  (8, 1, .isub, []), (9, 1, .i2l, []), (10, 3, .invokestatic 211, [0, 159, 3, 999]), (13, 3, .ifCond .eq 38, []), (16, 1, .iload_n 2, []), (17, 1, .i2l, []),
  (18, 1, .aload_n 0, []), (19, 3, .getfield 145, [13, 68]), (22, 1, .iload_n 1, []), (23, 1, .iaload, []), (24, 1, .i2l, []), (25, 1, .aload_n 0, []),
  (26, 3, .getfield 148, [13, 69]), (29, 1, .iload_n 1, []), (30, 1, .iaload, []), (31, 1, .i2l, []), (32, 3, .invokestatic 211, [0, 159, 3, 999]), (35, 3, .ifCond .eq 16, []),
  (38, 1, .iload_n 3, []), (39, 1, .iconst (-1), []), (40, 3, .if_icmp .eq 15, []), (43, 1, .aload_n 0, []), (44, 1, .iload_n 3, []), (45, 3, .invokevirtual 246, [0, 163, 2, 13]),
  (48, 3, .ifCond .ne 7, []), (51, 3, .ldc2_w 513, [18446744072709551616]), (54, 1, .lreturn, []), (55, 1, .lconst 0, []), (56, 2, .lstore 4, []), (58, 1, .iconst 0, []),
  (59, 2, .istore 6, []), (61, 2, .iload 6, []), (63, 2, .bipush 12, []), (65, 3, .if_icmp .ge 66, []), (68, 1, .aload_n 0, []), (69, 3, .getfield 151, [13, 70]),
  (72, 2, .bipush 12, []), (74, 1, .iload_n 1, []), (75, 1, .imul, []), (76, 2, .iload 6, []), (78, 1, .iadd, []), (79, 1, .iaload, []),
  (80, 2, .istore 7, []), (82, 2, .iload 7, []), (84, 3, .ifCond .lt 41, []), (87, 1, .aload_n 0, []), (88, 1, .iload_n 2, []), (89, 2, .iload 6, []),
  (91, 1, .aload_n 0, []), (92, 3, .getfield 225, [13, 3]), (95, 3, .invokevirtual 303, [0, 187, 4, 13]), (98, 1, .aload_n 0, []), (99, 1, .iload_n 2, []), (100, 2, .iload 6, []),
  (102, 1, .aload_n 0, []), (103, 3, .getfield 225, [13, 3]), (106, 3, .invokevirtual 320, [0, 195, 4, 13]), (109, 2, .lload 4, []), (111, 1, .aload_n 0, []), (112, 2, .iload 7, []),
  (114, 1, .iload_n 2, []), (115, 2, .iload 6, []), (117, 1, .iload_n 1, []), (118, 1, .iload_n 3, []), (119, 3, .invokevirtual 538, [0, 240, 6, 13]), (122, 1, .ladd, []),
  (123, 2, .lstore 4, []), (125, 3, .iinc 6 1, []), (128, 3, .goto (-67), []), (131, 2, .lload 4, []), (133, 1, .lreturn, [])]
set_option maxRecDepth 20000 in
def k_X12_isTaken : List az_I := [
  (0, 1, .iconst 0, []), (1, 2, .istore 4, []), (3, 1, .iconst 0, []), (4, 2, .istore 5, []), (6, 2, .iload 5, []), (8, 1, .aload_n 0, []),
  (9, 3, .getfield 254, [13, 66]), (12, 3, .if_icmp .ge 61, []), (15, 2, .iload 4, []), (17, 3, .ifCond .ne 43, []), (20, 1, .iload_n 2, []), (21, 1, .i2l, []),
  (22, 1, .aload_n 0, []), (23, 3, .getfield 145, [13, 68]), (26, 2, .iload 5, []), (28, 1, .iaload, []), (29, 1, .i2l, []), (30, 1, .aload_n 0, []),
  (31, 3, .getfield 148, [13, 69]), (34, 2, .iload 5, []), (36, 1, .iaload, []), (37, 1, .i2l, []), (38, 3, .invokestatic 211, [0, 159, 3, 999]), (41, 3, .ifCond .eq 23, []),
  (44, 1, .aload_n 0, []), (45, 3, .getfield 151, [13, 70]), (48, 2, .bipush 12, []), (50, 2, .iload 5, []), (52, 1, .imul, []), (53, 1, .iload_n 3, []),
  (54, 1, .iadd, []), (55, 1, .iaload, []), (56, 1, .iload_n 1, []), (57, 3, .if_icmp .ne 7, []), (60, 1, .iconst 1, []), (61, 3, .goto 4, []),
  (64, 1, .iconst 0, []), (65, 2, .istore 4, []), (67, 3, .iinc 5 1, []), (70, 3, .goto (-64), []), (73, 2, .iload 4, []), (75, 1, .ireturn, [])]
set_option maxRecDepth 20000 in
def k_X12_beside : List az_I := [
  (0, 1, .iload_n 1, []), (1, 1, .aload_n 0, []), (2, 3, .getfield 200, [13, 0]), (5, 1, .irem, []), (6, 1, .istore_n 3, []), (7, 1, .iload_n 1, []),
  (8, 1, .aload_n 0, []), (9, 3, .getfield 200, [13, 0]), (12, 1, .idiv, []), (13, 2, .istore 4, []), (15, 1, .iload_n 2, []), (16, 32, .tableswitch 80 0 3 #[32, 48, 60, 62], []),
  (48, 2, .iload 4, []), (50, 3, .ifCond .le 12, []), (53, 1, .iload_n 1, []), (54, 1, .aload_n 0, []), (55, 3, .getfield 200, [13, 0]), (58, 1, .isub, []),
  (59, 3, .goto 4, []), (62, 1, .iconst (-1), []), (63, 1, .ireturn, []), (64, 1, .iload_n 3, []), (65, 3, .ifCond .le 9, []), (68, 1, .iload_n 1, []),
  (69, 1, .iconst 1, []), (70, 1, .isub, []), (71, 3, .goto 4, []), (74, 1, .iconst (-1), []), (75, 1, .ireturn, []), (76, 1, .iload_n 1, []),
  (77, 1, .ireturn, []), (78, 1, .iload_n 3, []), (79, 1, .iconst 1, []), (80, 1, .iadd, []), (81, 1, .aload_n 0, []), (82, 3, .getfield 200, [13, 0]),
  (85, 3, .if_icmp .ge 9, []), (88, 1, .iload_n 1, []), (89, 1, .iconst 1, []), (90, 1, .iadd, []), (91, 3, .goto 4, []), (94, 1, .iconst (-1), []),
  (95, 1, .ireturn, []), (96, 2, .iload 4, []), (98, 1, .iconst 1, []), (99, 1, .iadd, []), (100, 1, .aload_n 0, []), (101, 3, .getfield 203, [13, 1]),
  (104, 3, .if_icmp .ge 12, []), (107, 1, .iload_n 1, []), (108, 1, .aload_n 0, []), (109, 3, .getfield 200, [13, 0]), (112, 1, .iadd, []), (113, 3, .goto 4, []),
  (116, 1, .iconst (-1), []), (117, 1, .ireturn, [])]
set_option maxRecDepth 20000 in
def k_X12_nextOf : List az_I := [
  (0, 1, .iconst (-1), []), (1, 1, .istore_n 3, []), (2, 1, .iconst 0, []), (3, 2, .istore 4, []), (5, 2, .iload 4, []), (7, 1, .iconst 5, []),
  (8, 3, .if_icmp .ge 125, []), (11, 1, .aload_n 0, []), (12, 1, .iload_n 1, []), (13, 2, .iload 4, []), (15, 3, .invokevirtual 542, [0, 243, 3, 13]), (18, 2, .istore 5, []),
  (20, 3, .sipush 192, []), (23, 1, .iload_n 2, []), (24, 1, .iconst 1, []), (25, 1, .iadd, []), (26, 1, .imul, []), (27, 2, .iload 5, []),
  (29, 1, .iadd, []), (30, 2, .istore 6, []), (32, 2, .iload 5, []), (34, 3, .ifCond .lt 93, []), (37, 1, .aload_n 0, []), (38, 3, .getfield 188, [13, 83]),
  (41, 2, .iload 6, []), (43, 1, .iaload, []), (44, 3, .sipush 1000, []), (47, 3, .if_icmp .lt 6, []), (50, 3, .goto 77, []), (53, 3, .sipush 192, []),
  (56, 1, .iload_n 2, []), (57, 1, .iconst 1, []), (58, 1, .iadd, []), (59, 1, .imul, []), (60, 1, .iload_n 3, []), (61, 1, .iadd, []),
  (62, 2, .istore 7, []), (64, 1, .iload_n 3, []), (65, 3, .ifCond .lt 55, []), (68, 1, .aload_n 0, []), (69, 3, .getfield 188, [13, 83]), (72, 2, .iload 6, []),
  (74, 1, .iaload, []), (75, 1, .aload_n 0, []), (76, 3, .getfield 188, [13, 83]), (79, 2, .iload 7, []), (81, 1, .iaload, []), (82, 3, .if_icmp .lt 38, []),
  (85, 1, .aload_n 0, []), (86, 3, .getfield 188, [13, 83]), (89, 2, .iload 6, []), (91, 1, .iaload, []), (92, 1, .aload_n 0, []), (93, 3, .getfield 188, [13, 83]),
  (96, 2, .iload 7, []), (98, 1, .iaload, []), (99, 3, .if_icmp .ne 26, []), (102, 1, .aload_n 0, []), (103, 3, .getfield 191, [13, 84]), (106, 2, .iload 6, []),
  (108, 1, .laload, []), (109, 1, .aload_n 0, []), (110, 3, .getfield 191, [13, 84]), (113, 2, .iload 7, []), (115, 1, .laload, []), (116, 1, .lcmp, []),
  (117, 3, .ifCond .ge 8, []), (120, 2, .iload 5, []), (122, 3, .goto 4, []), (125, 1, .iload_n 3, []), (126, 1, .istore_n 3, []), (127, 3, .iinc 4 1, []),
  (130, 3, .goto (-125), []), (133, 1, .iload_n 3, []), (134, 1, .ireturn, [])]
set_option maxRecDepth 20000 in
def k_X12_walk : List az_I := [
  (0, 1, .iload_n 1, []), (1, 3, .invokestatic 239, [0, 160, 1, 999]), (4, 3, .ifCond .eq 41, []), (7, 1, .iload_n 2, []), (8, 3, .invokestatic 228, [0, 161, 1, 999]), (11, 3, .ifCond .eq 34, []),
  (14, 2, .iload 4, []), (16, 1, .i2l, []), (17, 1, .iload_n 2, []), (18, 1, .i2l, []), (19, 3, .ldc2_w 215, [11]), (22, 3, .invokestatic 211, [0, 159, 3, 999]),
  (25, 3, .ifCond .eq 20, []), (28, 1, .aload_n 0, []), (29, 1, .iload_n 3, []), (30, 3, .invokevirtual 249, [0, 162, 2, 13]), (33, 3, .ifCond .eq 12, []), (36, 1, .aload_n 0, []),
  (37, 2, .iload 5, []), (39, 3, .invokevirtual 249, [0, 162, 2, 13]), (42, 3, .ifCond .ne 5, []), (45, 1, .iconst (-1), []), (46, 1, .ireturn, []), (47, 2, .iload 4, []),
  (49, 2, .istore 6, []), (51, 2, .iload 6, []), (53, 1, .iload_n 2, []), (54, 3, .if_icmp .lt 291, []), (57, 1, .aload_n 0, []), (58, 1, .iload_n 1, []),
  (59, 2, .iload 6, []), (61, 1, .aload_n 0, []), (62, 3, .getfield 225, [13, 3]), (65, 3, .invokevirtual 303, [0, 187, 4, 13]), (68, 1, .aload_n 0, []), (69, 1, .iload_n 1, []),
  (70, 2, .iload 6, []), (72, 1, .aload_n 0, []), (73, 3, .getfield 225, [13, 3]), (76, 3, .invokevirtual 320, [0, 195, 4, 13]), (79, 1, .iconst 0, []), (80, 2, .istore 7, []),
  (82, 2, .iload 7, []), (84, 1, .aload_n 0, []), (85, 3, .getfield 206, [13, 2]), (88, 3, .if_icmp .ge 251, []), (91, 3, .sipush 192, []), (94, 2, .iload 6, []),
  (96, 1, .imul, []), (97, 2, .iload 7, []), (99, 1, .iadd, []), (100, 2, .istore 8, []), (102, 1, .aload_n 0, []), (103, 3, .getfield 179, [13, 80]),
  (106, 2, .iload 8, []), (108, 1, .aload_n 0, []), (109, 3, .getfield 164, [13, 74]), (112, 2, .iload 7, []), (114, 1, .baload, []), (115, 3, .ifCond .eq 33, []),
  (118, 1, .aload_n 0, []), (119, 2, .iload 7, []), (121, 1, .iload_n 1, []), (122, 2, .iload 6, []), (124, 3, .invokevirtual 545, [0, 242, 4, 13]), (127, 3, .ifCond .ne 21, []),
  (130, 2, .iload 6, []), (132, 2, .iload 4, []), (134, 3, .if_icmp .lt 10, []), (137, 2, .iload 7, []), (139, 2, .iload 5, []), (141, 3, .if_icmp .ne 7, []),
  (144, 1, .iconst 1, []), (145, 3, .goto 4, []), (148, 1, .iconst 0, []), (149, 1, .bastore, []), (150, 1, .aload_n 0, []), (151, 3, .getfield 182, [13, 81]),
  (154, 2, .iload 8, []), (156, 1, .aload_n 0, []), (157, 3, .getfield 161, [13, 73]), (160, 2, .iload 7, []), (162, 1, .iaload, []), (163, 3, .ifCond .ne 7, []),
  (166, 1, .iconst 1, []), (167, 3, .goto 4, []), (170, 1, .iconst 0, []), (171, 1, .iastore, []), (172, 1, .aload_n 0, []), (173, 3, .getfield 185, [13, 82]),
  (176, 2, .iload 8, []), (178, 1, .aload_n 0, []), (179, 2, .iload 7, []), (181, 1, .iload_n 1, []), (182, 2, .iload 6, []), (184, 1, .iconst (-1), []),
  (185, 1, .iconst (-1), []), (186, 3, .invokevirtual 538, [0, 240, 6, 13]), (189, 1, .lastore, []), (190, 2, .iload 6, []), (192, 2, .iload 4, []), (194, 3, .if_icmp .ne 8, []),
  (197, 2, .iload 7, []), (199, 3, .goto 11, []), (202, 1, .aload_n 0, []), (203, 2, .iload 7, []), (205, 2, .iload 6, []), (207, 3, .invokevirtual 548, [0, 244, 3, 13]),
  (210, 2, .istore 9, []), (212, 1, .aload_n 0, []), (213, 3, .getfield 179, [13, 80]), (216, 2, .iload 8, []), (218, 1, .baload, []), (219, 3, .ifCond .eq 12, []),
  (222, 2, .iload 9, []), (224, 3, .ifCond .lt 7, []), (227, 1, .iconst 1, []), (228, 3, .goto 4, []), (231, 1, .iconst 0, []), (232, 2, .istore 10, []),
  (234, 3, .sipush 192, []), (237, 2, .iload 6, []), (239, 1, .iconst 1, []), (240, 1, .iadd, []), (241, 1, .imul, []), (242, 2, .iload 9, []),
  (244, 1, .iadd, []), (245, 2, .istore 11, []), (247, 1, .aload_n 0, []), (248, 3, .getfield 188, [13, 83]), (251, 2, .iload 8, []), (253, 2, .iload 10, []),
  (255, 3, .ifCond .ne 9, []), (258, 3, .sipush 1000, []), (261, 3, .goto 29, []), (264, 1, .aload_n 0, []), (265, 3, .getfield 182, [13, 81]), (268, 2, .iload 8, []),
  (270, 1, .iaload, []), (271, 2, .iload 6, []), (273, 2, .iload 4, []), (275, 3, .if_icmp .ne 7, []), (278, 1, .iconst 0, []), (279, 3, .goto 10, []),
  (282, 1, .aload_n 0, []), (283, 3, .getfield 188, [13, 83]), (286, 2, .iload 11, []), (288, 1, .iaload, []), (289, 1, .iadd, []), (290, 1, .iastore, []),
  (291, 1, .aload_n 0, []), (292, 3, .getfield 191, [13, 84]), (295, 2, .iload 8, []), (297, 2, .iload 10, []), (299, 3, .ifCond .ne 7, []), (302, 1, .lconst 0, []),
  (303, 3, .goto 29, []), (306, 1, .aload_n 0, []), (307, 3, .getfield 185, [13, 82]), (310, 2, .iload 8, []), (312, 1, .laload, []), (313, 2, .iload 6, []),
  (315, 2, .iload 4, []), (317, 3, .if_icmp .ne 7, []), (320, 1, .lconst 0, []), (321, 3, .goto 10, []), (324, 1, .aload_n 0, []), (325, 3, .getfield 191, [13, 84]),
  (328, 2, .iload 11, []), (330, 1, .laload, []), (331, 1, .ladd, []), (332, 1, .lastore, []), (333, 3, .iinc 7 1, []), (336, 3, .goto (-254), []),
  (339, 3, .iinc 6 (-1), []), (342, 3, .goto (-291), []), (345, 3, .sipush 192, []), (348, 1, .iload_n 2, []), (349, 1, .imul, []), (350, 1, .iload_n 3, []),
  (351, 1, .iadd, []), (352, 2, .istore 6, []), (354, 1, .aload_n 0, []), (355, 3, .getfield 188, [13, 83]), (358, 2, .iload 6, []), (360, 1, .iaload, []),
  (361, 3, .sipush 1000, []), (364, 3, .if_icmp .lt 5, []), (367, 1, .iconst (-1), []), (368, 1, .ireturn, []), (369, 1, .aload_n 0, []), (370, 2, .iload 4, []),
  (372, 1, .iload_n 2, []), (373, 1, .isub, []), (374, 1, .iconst 1, []), (375, 1, .iadd, []), (376, 3, .putfield 551, [13, 85]), (379, 1, .aload_n 0, []),
  (380, 1, .aload_n 0, []), (381, 3, .getfield 191, [13, 84]), (384, 2, .iload 6, []), (386, 1, .laload, []), (387, 3, .putfield 554, [13, 86]), (390, 1, .iload_n 3, []),
  (391, 2, .istore 7, []), (393, 1, .iload_n 2, []), (394, 2, .istore 8, []), (396, 2, .iload 8, []), (398, 2, .iload 4, []), (400, 3, .if_icmp .gt 42, []),
  (403, 1, .aload_n 0, []), (404, 3, .getfield 194, [13, 87]), (407, 2, .iload 8, []), (409, 1, .iload_n 2, []), (410, 1, .isub, []), (411, 2, .iload 7, []),
  (413, 1, .iastore, []), (414, 2, .iload 8, []), (416, 2, .iload 4, []), (418, 3, .if_icmp .ge 14, []), (421, 1, .aload_n 0, []), (422, 2, .iload 7, []),
  (424, 2, .iload 8, []), (426, 3, .invokevirtual 548, [0, 244, 3, 13]), (429, 3, .goto 5, []), (432, 2, .iload 7, []), (434, 2, .istore 7, []), (436, 3, .iinc 8 1, []),
  (439, 3, .goto (-43), []), (442, 1, .aload_n 0, []), (443, 3, .getfield 188, [13, 83]), (446, 2, .iload 6, []), (448, 1, .iaload, []), (449, 1, .ireturn, [])]
set_option maxRecDepth 20000 in
def k_X12_walked : List az_I := [
  (0, 1, .iload_n 1, []), (1, 1, .iconst (-1), []), (2, 3, .if_icmp .ne 17, []), (5, 1, .aload_n 0, []), (6, 3, .getfield 551, [13, 85]), (9, 3, .ifCond .le 10, []),
  (12, 1, .aload_n 0, []), (13, 3, .getfield 554, [13, 86]), (16, 3, .goto 32, []), (19, 1, .iload_n 1, []), (20, 1, .i2l, []), (21, 1, .lconst 0, []),
  (22, 1, .aload_n 0, []), (23, 3, .getfield 551, [13, 85]), (26, 1, .iconst 1, []), (27, 1, .isub, []), (28, 1, .i2l, []), (29, 3, .invokestatic 211, [0, 159, 3, 999]),
  (32, 3, .ifCond .eq 13, []), (35, 1, .aload_n 0, []), (36, 3, .getfield 194, [13, 87]), (39, 1, .iload_n 1, []), (40, 1, .iaload, []), (41, 1, .i2l, []),
  (42, 3, .goto 6, []), (45, 3, .ldc2_w 327, [18446744073709551615]), (48, 1, .lreturn, [])]
set_option maxRecDepth 20000 in
def k_X12_servedBy : List az_I := [
  (0, 1, .iconst 0, []), (1, 2, .istore 5, []), (3, 1, .aload_n 0, []), (4, 1, .iload_n 1, []), (5, 1, .iconst 0, []), (6, 1, .iconst 0, []),
  (7, 2, .iload 4, []), (9, 1, .iload_n 2, []), (10, 1, .iload_n 3, []), (11, 3, .invokevirtual 296, [0, 186, 7, 13]), (14, 1, .iconst 0, []), (15, 2, .istore 6, []),
  (17, 2, .iload 6, []), (19, 1, .aload_n 0, []), (20, 3, .getfield 254, [13, 66]), (23, 3, .if_icmp .ge 92, []), (26, 1, .aload_n 0, []), (27, 3, .getfield 151, [13, 70]),
  (30, 2, .bipush 12, []), (32, 2, .iload 6, []), (34, 1, .imul, []), (35, 1, .iload_n 3, []), (36, 1, .iadd, []), (37, 1, .iaload, []),
  (38, 2, .istore 7, []), (40, 2, .iload 5, []), (42, 2, .iload 7, []), (44, 3, .ifCond .lt 61, []), (47, 1, .iload_n 2, []), (48, 1, .i2l, []),
  (49, 1, .aload_n 0, []), (50, 3, .getfield 145, [13, 68]), (53, 2, .iload 6, []), (55, 1, .iaload, []), (56, 1, .i2l, []), (57, 1, .aload_n 0, []),
  (58, 3, .getfield 148, [13, 69]), (61, 2, .iload 6, []), (63, 1, .iaload, []), (64, 1, .i2l, []), (65, 3, .invokestatic 211, [0, 159, 3, 999]), (68, 3, .ifCond .eq 37, []),
  (71, 1, .aload_n 0, []), (72, 3, .getfield 164, [13, 74]), (75, 2, .iload 7, []), (77, 1, .baload, []), (78, 3, .ifCond .eq 27, []), (81, 1, .aload_n 0, []),
  (82, 3, .getfield 161, [13, 73]), (85, 2, .iload 7, []), (87, 1, .iaload, []), (88, 3, .ifCond .ne 17, []), (91, 1, .aload_n 0, []), (92, 3, .getfield 154, [13, 71]),
  (95, 2, .iload 7, []), (97, 1, .baload, []), (98, 3, .ifCond .eq 7, []), (101, 1, .iconst 1, []), (102, 3, .goto 4, []), (105, 1, .iconst 0, []),
  (106, 1, .iadd, []), (107, 2, .istore 5, []), (109, 3, .iinc 6 1, []), (112, 3, .goto (-95), []), (115, 2, .iload 5, []), (117, 1, .ireturn, [])]
set_option maxRecDepth 20000 in
def k_X12_seeks : List az_I := [
  (0, 1, .iconst 0, []), (1, 1, .istore_n 3, []), (2, 1, .iload_n 3, []), (3, 1, .aload_n 0, []), (4, 3, .getfield 206, [13, 2]), (7, 3, .if_icmp .ge 16, []),
  (10, 1, .aload_n 0, []), (11, 3, .getfield 197, [13, 89]), (14, 1, .iload_n 3, []), (15, 1, .iconst 0, []), (16, 1, .iastore, []), (17, 3, .iinc 3 1, []),
  (20, 3, .goto (-18), []), (23, 1, .iconst 0, []), (24, 1, .istore_n 3, []), (25, 1, .iload_n 3, []), (26, 2, .bipush 12, []), (28, 3, .if_icmp .ge 70, []),
  (31, 1, .aload_n 0, []), (32, 1, .iload_n 1, []), (33, 1, .iload_n 3, []), (34, 1, .aload_n 0, []), (35, 3, .getfield 225, [13, 3]), (38, 3, .invokevirtual 303, [0, 187, 4, 13]),
  (41, 1, .iconst 0, []), (42, 2, .istore 4, []), (44, 2, .iload 4, []), (46, 1, .aload_n 0, []), (47, 3, .getfield 206, [13, 2]), (50, 3, .if_icmp .ge 42, []),
  (53, 1, .aload_n 0, []), (54, 3, .getfield 197, [13, 89]), (57, 2, .iload 4, []), (59, 1, .dup2, []), (60, 1, .iaload, []), (61, 1, .aload_n 0, []),
  (62, 3, .getfield 164, [13, 74]), (65, 2, .iload 4, []), (67, 1, .baload, []), (68, 3, .ifCond .eq 15, []), (71, 1, .aload_n 0, []), (72, 2, .iload 4, []),
  (74, 1, .iload_n 1, []), (75, 1, .iload_n 3, []), (76, 1, .iload_n 2, []), (77, 3, .invokevirtual 558, [0, 247, 5, 13]), (80, 3, .goto 4, []), (83, 1, .iconst 0, []),
  (84, 1, .iadd, []), (85, 1, .iastore, []), (86, 3, .iinc 4 1, []), (89, 3, .goto (-45), []), (92, 3, .iinc 3 1, []), (95, 3, .goto (-70), []),
  (98, 1, .iconst (-1), []), (99, 1, .istore_n 3, []), (100, 1, .iconst 0, []), (101, 2, .istore 4, []), (103, 2, .iload 4, []), (105, 1, .aload_n 0, []),
  (106, 3, .getfield 206, [13, 2]), (109, 3, .if_icmp .ge 94, []), (112, 1, .aload_n 0, []), (113, 2, .iload 4, []), (115, 1, .iload_n 1, []), (116, 1, .aload_n 0, []),
  (117, 3, .getfield 225, [13, 3]), (120, 3, .invokevirtual 532, [0, 183, 4, 13]), (123, 2, .istore 5, []), (125, 1, .iconst 0, []), (126, 2, .istore 6, []), (128, 2, .iload 6, []),
  (130, 2, .bipush 12, []), (132, 3, .if_icmp .ge 33, []), (135, 2, .iload 5, []), (137, 3, .ifCond .eq 19, []), (140, 1, .aload_n 0, []), (141, 2, .iload 4, []),
  (143, 1, .iload_n 1, []), (144, 2, .iload 6, []), (146, 3, .invokevirtual 545, [0, 242, 4, 13]), (149, 3, .ifCond .ne 7, []), (152, 1, .iconst 1, []), (153, 3, .goto 4, []),
  (156, 1, .iconst 0, []), (157, 2, .istore 5, []), (159, 3, .iinc 6 1, []), (162, 3, .goto (-34), []), (165, 2, .iload 5, []), (167, 3, .ifCond .eq 28, []),
  (170, 1, .iload_n 3, []), (171, 3, .ifCond .lt 19, []), (174, 1, .aload_n 0, []), (175, 3, .getfield 197, [13, 89]), (178, 2, .iload 4, []), (180, 1, .iaload, []),
  (181, 1, .aload_n 0, []), (182, 3, .getfield 197, [13, 89]), (185, 1, .iload_n 3, []), (186, 1, .iaload, []), (187, 3, .if_icmp .le 8, []), (190, 2, .iload 4, []),
  (192, 3, .goto 4, []), (195, 1, .iload_n 3, []), (196, 1, .istore_n 3, []), (197, 3, .iinc 4 1, []), (200, 3, .goto (-97), []), (203, 1, .aload_n 0, []),
  (204, 1, .iload_n 3, []), (205, 3, .ifCond .ge 7, []), (208, 1, .iconst (-1), []), (209, 3, .goto 9, []), (212, 1, .aload_n 0, []), (213, 3, .getfield 197, [13, 89]),
  (216, 1, .iload_n 3, []), (217, 1, .iaload, []), (218, 3, .putfield 561, [13, 88]), (221, 1, .iload_n 3, []), (222, 1, .ireturn, [])]
set_option maxRecDepth 20000 in
def k_X12_best : List az_I := [
  (0, 1, .iload_n 1, []), (1, 3, .invokestatic 239, [0, 160, 1, 999]), (4, 3, .ifCond .eq 24, []), (7, 1, .iload_n 2, []), (8, 1, .i2l, []), (9, 1, .lconst 1, []),
  (10, 3, .ldc2_w 252, [60]), (13, 3, .invokestatic 211, [0, 159, 3, 999]), (16, 3, .ifCond .eq 12, []), (19, 1, .aload_n 0, []), (20, 1, .iload_n 1, []), (21, 1, .iload_n 2, []),
  (22, 3, .invokevirtual 564, [0, 248, 3, 13]), (25, 3, .goto 4, []), (28, 1, .iconst (-1), []), (29, 1, .ireturn, [])]
set_option maxRecDepth 20000 in
def k_X12_serves : List az_I := [
  (0, 1, .iload_n 1, []), (1, 3, .invokestatic 239, [0, 160, 1, 999]), (4, 3, .ifCond .eq 15, []), (7, 1, .iload_n 2, []), (8, 1, .i2l, []), (9, 1, .lconst 1, []),
  (10, 3, .ldc2_w 252, [60]), (13, 3, .invokestatic 211, [0, 159, 3, 999]), (16, 3, .ifCond .ne 5, []), (19, 1, .iconst (-1), []), (20, 1, .ireturn, []), (21, 1, .aload_n 0, []),
  (22, 1, .iload_n 1, []), (23, 1, .iload_n 2, []), (24, 3, .invokevirtual 564, [0, 248, 3, 13]), (27, 1, .istore_n 3, []), (28, 1, .aload_n 0, []), (29, 3, .getfield 561, [13, 88]),
  (32, 1, .ireturn, [])]
set_option maxRecDepth 20000 in
def k_X12_about : List az_I := [
  (0, 1, .iconst 0, []), (1, 1, .istore_n 2, []), (2, 1, .iconst 0, []), (3, 1, .istore_n 3, []), (4, 1, .iload_n 3, []), (5, 1, .aload_n 0, []),
  (6, 3, .getfield 220, [13, 12]), (9, 3, .if_icmp .ge 33, []), (12, 1, .iload_n 2, []), (13, 1, .aload_n 0, []), (14, 1, .iload_n 3, []), (15, 1, .aload_n 0, []),
  (16, 3, .getfield 225, [13, 3]), (19, 1, .aload_n 0, []), (20, 3, .getfield 225, [13, 3]), (23, 3, .invokevirtual 282, [0, 181, 4, 13]), (26, 3, .ifCond .lt 7, []), (29, 1, .iconst 1, []),
  (30, 3, .goto 4, []), (33, 1, .iconst 0, []), (34, 1, .iadd, []), (35, 1, .istore_n 2, []), (36, 3, .iinc 3 1, []), (39, 3, .goto (-35), []),
  (42, 1, .iload_n 1, []), (43, 57, .tableswitch 109 0 10 #[57, 62, 67, 72, 77, 82, 87, 92, 97, 102, 107], []), (100, 1, .aload_n 0, []), (101, 3, .getfield 225, [13, 3]), (104, 1, .ireturn, []), (105, 1, .aload_n 0, []),
  (106, 3, .getfield 200, [13, 0]), (109, 1, .ireturn, []), (110, 1, .aload_n 0, []), (111, 3, .getfield 203, [13, 1]), (114, 1, .ireturn, []), (115, 1, .aload_n 0, []),
  (116, 3, .getfield 217, [13, 9]), (119, 1, .ireturn, []), (120, 1, .aload_n 0, []), (121, 3, .getfield 220, [13, 12]), (124, 1, .ireturn, []), (125, 1, .aload_n 0, []),
  (126, 3, .getfield 310, [13, 27]), (129, 1, .ireturn, []), (130, 1, .aload_n 0, []), (131, 3, .getfield 236, [13, 6]), (134, 1, .ireturn, []), (135, 1, .aload_n 0, []),
  (136, 3, .getfield 254, [13, 66]), (139, 1, .ireturn, []), (140, 1, .aload_n 0, []), (141, 3, .getfield 508, [13, 55]), (144, 1, .ireturn, []), (145, 1, .aload_n 0, []),
  (146, 3, .getfield 340, [13, 40]), (149, 1, .ireturn, []), (150, 1, .iload_n 2, []), (151, 1, .ireturn, []), (152, 1, .iconst (-1), []), (153, 1, .ireturn, [])]
set_option maxRecDepth 20000 in
def k_J6_bitCount_0f7a4 : List az_I := [
  (0, 1, .iload_n 0, []), (1, 1, .iload_n 0, []), (2, 1, .iconst 1, []), (3, 1, .iushr, []), (4, 3, .ldc_w 265, [0, 1431655765]), (7, 1, .iand, []),
  (8, 1, .isub, []), (9, 1, .istore_n 0, []), (10, 1, .iload_n 0, []), (11, 3, .ldc_w 266, [0, 858993459]), (14, 1, .iand, []), (15, 1, .iload_n 0, []),
  (16, 1, .iconst 2, []), (17, 1, .iushr, []), (18, 3, .ldc_w 266, [0, 858993459]), (21, 1, .iand, []), (22, 1, .iadd, []), (23, 1, .istore_n 0, []),
  (24, 1, .iload_n 0, []), (25, 1, .iload_n 0, []), (26, 1, .iconst 4, []), (27, 1, .iushr, []), (28, 1, .iadd, []), (29, 3, .ldc_w 267, [0, 252645135]),
  (32, 1, .iand, []), (33, 1, .istore_n 0, []), (34, 1, .iload_n 0, []), (35, 1, .iload_n 0, []), (36, 2, .bipush 8, []), (38, 1, .iushr, []),
  (39, 1, .iadd, []), (40, 1, .istore_n 0, []), (41, 1, .iload_n 0, []), (42, 1, .iload_n 0, []), (43, 2, .bipush 16, []), (45, 1, .iushr, []),
  (46, 1, .iadd, []), (47, 1, .istore_n 0, []), (48, 1, .iload_n 0, []), (49, 2, .bipush 63, []), (51, 1, .iand, []), (52, 1, .ireturn, [])]
set_option maxRecDepth 20000 in
def k_J9_floorDiv_7cf53 : List az_I := [
  (0, 1, .iload_n 0, []), (1, 1, .iload_n 1, []), (2, 1, .idiv, []), (3, 1, .istore_n 2, []), (4, 1, .iload_n 0, []), (5, 1, .iload_n 1, []),
  (6, 1, .ixor, []), (7, 3, .ifCond .ge 14, []), (10, 1, .iload_n 2, []), (11, 1, .iload_n 1, []), (12, 1, .imul, []), (13, 1, .iload_n 0, []),
  (14, 3, .if_icmp .eq 7, []), (17, 1, .iload_n 2, []), (18, 1, .iconst 1, []), (19, 1, .isub, []), (20, 1, .ireturn, []), (21, 1, .iload_n 2, []),
  (22, 1, .ireturn, [])]
set_option maxRecDepth 20000 in
def k_J9_abs_0f7a4 : List az_I := [
  (0, 1, .iload_n 0, []), (1, 3, .ifCond .ge 8, []), (4, 1, .iload_n 0, []), (5, 1, .ineg, []), (6, 3, .goto 4, []), (9, 1, .iload_n 0, []),
  (10, 1, .ireturn, [])]
set_option maxRecDepth 20000 in
def k_J9_max_7cf53 : List az_I := [
  (0, 1, .iload_n 0, []), (1, 1, .iload_n 1, []), (2, 3, .if_icmp .lt 7, []), (5, 1, .iload_n 0, []), (6, 3, .goto 4, []), (9, 1, .iload_n 1, []),
  (10, 1, .ireturn, [])]
set_option maxRecDepth 20000 in
def k_J9_max_f86c9 : List az_I := [
  (0, 1, .lload_n 0, []), (1, 1, .lload_n 2, []), (2, 1, .lcmp, []), (3, 3, .ifCond .lt 7, []), (6, 1, .lload_n 0, []), (7, 3, .goto 4, []),
  (10, 1, .lload_n 2, []), (11, 1, .lreturn, [])]
set_option maxRecDepth 20000 in
def k_J9_min_7cf53 : List az_I := [
  (0, 1, .iload_n 0, []), (1, 1, .iload_n 1, []), (2, 3, .if_icmp .gt 7, []), (5, 1, .iload_n 0, []), (6, 3, .goto 4, []), (9, 1, .iload_n 1, []),
  (10, 1, .ireturn, [])]
set_option maxRecDepth 20000 in
def k_J9_min_f86c9 : List az_I := [
  (0, 1, .lload_n 0, []), (1, 1, .lload_n 2, []), (2, 1, .lcmp, []), (3, 3, .ifCond .gt 7, []), (6, 1, .lload_n 0, []), (7, 3, .goto 4, []),
  (10, 1, .lload_n 2, []), (11, 1, .lreturn, [])]
set_option maxRecDepth 20000 in
def k_J0_length_8abf5 : List az_I := [
  (0, 1, .aload_n 0, []), (1, 3, .getfield 9, [113, 0]), (4, 1, .arraylength, []), (5, 1, .aload_n 0, []), (6, 3, .invokevirtual 335, [0, 261, 1, 113]), (9, 1, .ishr, []),
  (10, 1, .ireturn, [])]
set_option maxRecDepth 20000 in
def k_J0_charAt_5068e : List az_I := [
  (0, 1, .aload_n 0, []), (1, 3, .invokevirtual 492, [0, 262, 1, 113]), (4, 3, .ifCond .eq 12, []), (7, 1, .aload_n 0, []), (8, 3, .getfield 9, [113, 0]), (11, 1, .iload_n 1, []),
  (12, 3, .invokestatic 495, [0, 264, 2, 999]), (15, 1, .ireturn, []), (16, 1, .aload_n 0, []), (17, 3, .getfield 9, [113, 0]), (20, 1, .iload_n 1, []), (24, 1, .ireturn, [])]
set_option maxRecDepth 20000 in
def k_J0_coder_7d493 : List az_I := [
  (0, 3, .getstatic 38, [4, 0]), (3, 3, .ifCond .eq 10, []), (6, 1, .aload_n 0, []), (7, 3, .getfield 15, [113, 1]), (10, 3, .goto 4, []), (13, 1, .iconst 1, []),
  (14, 1, .ireturn, [])]
set_option maxRecDepth 20000 in
def k_J0_isLatin1_aae02 : List az_I := [
  (0, 3, .getstatic 38, [4, 0]), (3, 3, .ifCond .eq 14, []), (6, 1, .aload_n 0, []), (7, 3, .getfield 15, [113, 1]), (10, 3, .ifCond .ne 7, []), (13, 1, .iconst 1, []),
  (14, 3, .goto 4, []), (17, 1, .iconst 0, []), (18, 1, .ireturn, [])]
set_option maxRecDepth 20000 in
def k_J0_checkIndex_df160 : List az_I := [
  (0, 1, .iload_n 0, []), (1, 1, .iload_n 1, []), (2, 3, .getstatic 1053, [3, 2]), (5, 3, .invokestatic 1059, [0, 280, 3, 999]), (8, 1, .pop, []), (9, 1, .return_, [])]
set_option maxRecDepth 20000 in
def k_J1_charAt_3b067 : List az_I := [
  (0, 1, .iload_n 1, []), (1, 1, .aload_n 0, []), (2, 1, .arraylength, []), (3, 3, .invokestatic 9, [0, 263, 2, 999]), (6, 1, .aload_n 0, []), (7, 1, .iload_n 1, []),
  (8, 1, .baload, []), (9, 3, .sipush 255, []), (12, 1, .iand, []), (13, 1, .i2c, []), (14, 1, .ireturn, [])]
set_option maxRecDepth 20000 in
def k_Jxa1e45_init_da8c8 : List az_I := [
  (0, 1, .aload_n 0, []), (1, 3, .invokespecial 1, [1, 2, 3]), (4, 1, .return_, [])]
set_option maxRecDepth 20000 in
def k_Jxc12de_init_da8c8 : List az_I := [
  (0, 1, .aload_n 0, []), (1, 3, .invokespecial 1, [0, 265, 1, 0]), (4, 1, .aload_n 0, []), (5, 1, .iconst 0, []), (6, 3, .putfield 7, [0, 0]), (9, 1, .return_, [])]
set_option maxRecDepth 20000 in
def k_Jx4a65c_init_da8c8 : List az_I := [
  (0, 1, .aload_n 0, []), (1, 3, .invokespecial 1, [0, 266, 1, 0]), (4, 1, .aload_n 0, []), (5, 3, .getstatic 39, [0, 2]), (8, 3, .putfield 9, [0, 1]), (11, 1, .return_, [])]
set_option maxRecDepth 20000 in
def k_Jx4a65c_grow_92f84 : List az_I := [
  (0, 1, .aload_n 0, []), (1, 3, .getfield 9, [0, 1]), (4, 1, .arraylength, []), (5, 1, .istore_n 2, []), (6, 1, .iload_n 2, []), (7, 3, .ifCond .gt 13, []),
  (10, 1, .aload_n 0, []), (11, 3, .getfield 9, [0, 1]), (14, 3, .getstatic 39, [0, 2]), (17, 3, .if_acmp .eq 28, []), (20, 1, .iload_n 2, []), (21, 1, .iload_n 1, []),
  (22, 1, .iload_n 2, []), (23, 1, .isub, []), (24, 1, .iload_n 2, []), (25, 1, .iconst 1, []), (26, 1, .ishr, []), (27, 3, .invokestatic 73, [0, 279, 3, 999]),
  (30, 1, .istore_n 3, []), (31, 1, .aload_n 0, []), (32, 1, .aload_n 0, []), (33, 3, .getfield 9, [0, 1]), (36, 1, .iload_n 3, []), (37, 3, .invokestatic 66, [0, 276, 2, 999]),
  (40, 1, .dup_x1, []), (41, 3, .putfield 9, [0, 1]), (44, 1, .areturn, []), (45, 1, .aload_n 0, []), (46, 2, .bipush 10, []), (48, 1, .iload_n 1, []),
  (49, 3, .invokestatic 79, [0, 255, 2, 999]), (52, 3, .anewarray 7, []), (55, 1, .dup_x1, []), (56, 3, .putfield 9, [0, 1]), (59, 1, .areturn, [])]
set_option maxRecDepth 20000 in
def k_Jx4a65c_grow_d5877 : List az_I := [
  (0, 1, .aload_n 0, []), (1, 1, .aload_n 0, []), (2, 3, .getfield 48, [0, 2]), (5, 1, .iconst 1, []), (6, 1, .iadd, []), (7, 3, .invokevirtual 69, [0, 268, 2, 0]),
  (10, 1, .areturn, [])]
set_option maxRecDepth 20000 in
def k_Jx4a65c_size_8abf5 : List az_I := [
  (0, 1, .aload_n 0, []), (1, 3, .getfield 48, [0, 2]), (4, 1, .ireturn, [])]
set_option maxRecDepth 20000 in
def k_Jx4a65c_elementData_915e3 : List az_I := [
  (0, 1, .aload_n 0, []), (1, 3, .getfield 9, [0, 1]), (4, 1, .iload_n 1, []), (5, 1, .aaload, []), (6, 1, .areturn, [])]
set_option maxRecDepth 20000 in
def k_Jx4a65c_get_915e3 : List az_I := [
  (0, 1, .iload_n 1, []), (1, 1, .aload_n 0, []), (2, 3, .getfield 48, [0, 2]), (5, 3, .invokestatic 118, [0, 278, 2, 999]), (8, 1, .pop, []), (9, 1, .aload_n 0, []),
  (10, 1, .iload_n 1, []), (11, 3, .invokevirtual 123, [0, 271, 2, 0]), (14, 1, .areturn, [])]
set_option maxRecDepth 20000 in
def k_Jx4a65c_add_72be8 : List az_I := [
  (0, 1, .iload_n 3, []), (1, 1, .aload_n 2, []), (2, 1, .arraylength, []), (3, 3, .if_icmp .ne 8, []), (6, 1, .aload_n 0, []), (7, 3, .invokevirtual 129, [0, 269, 1, 0]),
  (10, 1, .astore_n 2, []), (11, 1, .aload_n 2, []), (12, 1, .iload_n 3, []), (13, 1, .aload_n 1, []), (14, 1, .aastore, []), (15, 1, .aload_n 0, []),
  (16, 1, .iload_n 3, []), (17, 1, .iconst 1, []), (18, 1, .iadd, []), (19, 3, .putfield 48, [0, 2]), (22, 1, .return_, [])]
set_option maxRecDepth 20000 in
def k_Jx4a65c_add_9ea2d : List az_I := [
  (0, 1, .aload_n 0, []), (1, 1, .dup, []), (2, 3, .getfield 63, [0, 0]), (5, 1, .iconst 1, []), (6, 1, .iadd, []), (7, 3, .putfield 63, [0, 0]),
  (10, 1, .aload_n 0, []), (11, 1, .aload_n 1, []), (12, 1, .aload_n 0, []), (13, 3, .getfield 9, [0, 1]), (16, 1, .aload_n 0, []), (17, 3, .getfield 48, [0, 2]),
  (20, 3, .invokevirtual 131, [0, 273, 4, 0]), (23, 1, .iconst 1, []), (24, 1, .ireturn, [])]
set_option maxRecDepth 20000 in
def k_J7_fill_53178 : List az_I := [
  (0, 1, .iconst 0, []), (1, 1, .istore_n 2, []), (2, 1, .aload_n 0, []), (3, 1, .arraylength, []), (4, 1, .istore_n 3, []), (5, 1, .iload_n 2, []),
  (6, 1, .iload_n 3, []), (7, 3, .if_icmp .ge 13, []), (10, 1, .aload_n 0, []), (11, 1, .iload_n 2, []), (12, 1, .iload_n 1, []), (13, 1, .iastore, []),
  (14, 3, .iinc 2 1, []), (17, 3, .goto (-12), []), (20, 1, .return_, [])]
set_option maxRecDepth 20000 in
def k_J7_copyOf_1904c : List az_I := [
  (0, 1, .aload_n 0, []), (1, 1, .iload_n 1, []), (2, 1, .aload_n 0, []), (3, 3, .invokevirtual 86, [1, 2, 4]), (6, 3, .invokestatic 300, [0, 277, 3, 999]), (9, 1, .areturn, [])]
set_option maxRecDepth 20000 in
def k_J7_copyOf_6403c : List az_I := [
  (0, 1, .aload_n 2, []), (1, 2, .ldc 110, [1, 1000005]), (3, 3, .if_acmp .ne 10, []), (6, 1, .iload_n 1, []), (7, 3, .anewarray 2, []), (10, 3, .goto 14, []),
  (13, 1, .aload_n 2, []), (17, 1, .iload_n 1, []), (24, 1, .astore_n 3, []), (25, 1, .aload_n 0, []), (26, 1, .iconst 0, []), (27, 1, .aload_n 3, []),
  (28, 1, .iconst 0, []), (29, 1, .aload_n 0, []), (30, 1, .arraylength, []), (31, 1, .iload_n 1, []), (32, 3, .invokestatic 304, [0, 257, 2, 999]), (35, 3, .invokestatic 150, [1, 2, 5]),
  (38, 1, .aload_n 3, []), (39, 1, .areturn, [])]
set_option maxRecDepth 20000 in
def k_J15_checkIndex_7cf53 : List az_I := [
  (0, 1, .iload_n 0, []), (1, 1, .iload_n 1, []), (2, 1, .aconst_null, []), (3, 3, .invokestatic 105, [0, 280, 3, 999]), (6, 1, .ireturn, [])]
set_option maxRecDepth 20000 in
def k_J8_newLength_cabcc : List az_I := [
  (0, 1, .iload_n 0, []), (1, 1, .iload_n 1, []), (2, 1, .iload_n 2, []), (3, 3, .invokestatic 194, [0, 255, 2, 999]), (6, 1, .iadd, []), (7, 1, .istore_n 3, []),
  (8, 1, .iconst 0, []), (9, 1, .iload_n 3, []), (10, 3, .if_icmp .ge 11, []), (13, 1, .iload_n 3, []), (14, 2, .ldc 200, [0, 2147483639]), (16, 3, .if_icmp .gt 5, []),
  (19, 1, .iload_n 3, []), (20, 1, .ireturn, []), (21, 1, .iload_n 0, []), (22, 1, .iload_n 1, []), (26, 1, .ireturn, [])]
set_option maxRecDepth 20000 in
def k_J3_checkIndex_8e157 : List az_I := [
  (0, 1, .iload_n 0, []), (1, 3, .ifCond .lt 8, []), (4, 1, .iload_n 0, []), (5, 1, .iload_n 1, []), (6, 3, .if_icmp .lt 10, []), (9, 1, .aload_n 2, []),
  (10, 1, .iload_n 0, []), (11, 1, .iload_n 1, []), (16, 1, .iload_n 0, []), (17, 1, .ireturn, [])]
set_option maxRecDepth 20000 in
def k_L_cell : List az_I := [
  (0, 1, .iload_n 1, []), (1, 1, .aload_n 0, []), (2, 1, .arraylength, []), (3, 3, .if_icmp .ge 9, []), (6, 1, .aload_n 0, []), (7, 1, .iload_n 1, []),
  (8, 1, .iaload, []), (9, 3, .goto 4, []), (12, 1, .iconst 0, []), (13, 1, .ireturn, [])]
set_option maxRecDepth 20000 in
def k_L_law0 : List az_I := [
  (0, 3, .new 7, [12]), (3, 1, .dup, []), (4, 1, .aload_n 0, []), (5, 1, .iconst 0, []), (6, 3, .invokestatic 9, [0, 281, 2, 999]), (9, 1, .aload_n 0, []),
  (10, 1, .iconst 1, []), (11, 3, .invokestatic 9, [0, 281, 2, 999]), (14, 3, .invokespecial 15, [0, 94, 3, 12]), (17, 1, .astore_n 1, []), (18, 3, .new 18, [13]), (21, 1, .dup, []),
  (22, 1, .aload_n 0, []), (23, 1, .iconst 0, []), (24, 3, .invokestatic 9, [0, 281, 2, 999]), (27, 1, .aload_n 0, []), (28, 1, .iconst 1, []), (29, 3, .invokestatic 9, [0, 281, 2, 999]),
  (32, 3, .invokespecial 20, [0, 158, 3, 13]), (35, 1, .astore_n 2, []), (36, 1, .iconst 2, []), (37, 1, .istore_n 3, []), (38, 1, .iload_n 3, []), (39, 1, .aload_n 0, []),
  (40, 1, .arraylength, []), (41, 2, .bipush 9, []), (43, 1, .isub, []), (44, 3, .if_icmp .gt 1687, []), (47, 1, .aload_n 0, []), (48, 1, .iload_n 3, []),
  (49, 1, .iaload, []), (50, 2, .bipush 63, []), (52, 1, .iand, []), (53, 155, .tableswitch 1672 0 34 #[155, 178, 231, 264, 277, 310, 353, 406, 469, 512, 545, 588, 631, 664, 707, 806, 859, 912, 975, 1028, 1082, 1136, 1199, 1222, 1235, 1258, 1333, 1376, 1419, 1452, 1496, 1559, 1583, 1616, 1649], []), (208, 1, .aload_n 1, []), (209, 1, .aload_n 0, []),
  (210, 1, .iload_n 3, []), (211, 1, .iconst 1, []), (212, 1, .iadd, []), (213, 1, .iaload, []), (214, 3, .invokevirtual 21, [0, 95, 2, 12]), (217, 1, .aload_n 2, []),
  (218, 1, .aload_n 0, []), (219, 1, .iload_n 3, []), (220, 1, .iconst 1, []), (221, 1, .iadd, []), (222, 1, .iaload, []), (223, 3, .invokevirtual 25, [0, 166, 2, 13]),
  (226, 3, .if_icmp .eq 1499, []), (229, 1, .iconst 0, []), (230, 1, .ireturn, []), (231, 1, .aload_n 1, []), (232, 1, .aload_n 0, []), (233, 1, .iload_n 3, []),
  (234, 1, .iconst 1, []), (235, 1, .iadd, []), (236, 1, .iaload, []), (237, 1, .aload_n 0, []), (238, 1, .iload_n 3, []), (239, 1, .iconst 2, []),
  (240, 1, .iadd, []), (241, 1, .iaload, []), (242, 1, .aload_n 0, []), (243, 1, .iload_n 3, []), (244, 1, .iconst 3, []), (245, 1, .iadd, []),
  (246, 1, .iaload, []), (247, 1, .aload_n 0, []), (248, 1, .iload_n 3, []), (249, 1, .iconst 4, []), (250, 1, .iadd, []), (251, 1, .iaload, []),
  (252, 3, .invokevirtual 26, [0, 96, 5, 12]), (255, 1, .aload_n 2, []), (256, 1, .aload_n 0, []), (257, 1, .iload_n 3, []), (258, 1, .iconst 1, []), (259, 1, .iadd, []),
  (260, 1, .iaload, []), (261, 1, .aload_n 0, []), (262, 1, .iload_n 3, []), (263, 1, .iconst 2, []), (264, 1, .iadd, []), (265, 1, .iaload, []),
  (266, 1, .aload_n 0, []), (267, 1, .iload_n 3, []), (268, 1, .iconst 3, []), (269, 1, .iadd, []), (270, 1, .iaload, []), (271, 1, .aload_n 0, []),
  (272, 1, .iload_n 3, []), (273, 1, .iconst 4, []), (274, 1, .iadd, []), (275, 1, .iaload, []), (276, 3, .invokevirtual 30, [0, 167, 5, 13]), (279, 3, .if_icmp .eq 1446, []),
  (282, 1, .iconst 0, []), (283, 1, .ireturn, []), (284, 1, .aload_n 1, []), (285, 1, .aload_n 0, [])]
set_option maxRecDepth 20000 in
def k_L_law1 : List az_I := [
  (286, 1, .iload_n 3, []), (287, 1, .iconst 1, []), (288, 1, .iadd, []), (289, 1, .iaload, []), (290, 1, .aload_n 0, []), (291, 1, .iload_n 3, []),
  (292, 1, .iconst 2, []), (293, 1, .iadd, []), (294, 1, .iaload, []), (295, 3, .invokevirtual 31, [0, 97, 3, 12]), (298, 1, .aload_n 2, []), (299, 1, .aload_n 0, []),
  (300, 1, .iload_n 3, []), (301, 1, .iconst 1, []), (302, 1, .iadd, []), (303, 1, .iaload, []), (304, 1, .aload_n 0, []), (305, 1, .iload_n 3, []),
  (306, 1, .iconst 2, []), (307, 1, .iadd, []), (308, 1, .iaload, []), (309, 3, .invokevirtual 35, [0, 169, 3, 13]), (312, 3, .if_icmp .eq 1413, []), (315, 1, .iconst 0, []),
  (316, 1, .ireturn, []), (317, 1, .aload_n 1, []), (318, 3, .invokevirtual 36, [0, 98, 1, 12]), (321, 1, .aload_n 2, []), (322, 3, .invokevirtual 40, [0, 170, 1, 13]), (325, 3, .if_icmp .eq 1400, []),
  (328, 1, .iconst 0, []), (329, 1, .ireturn, []), (330, 1, .aload_n 1, []), (331, 1, .aload_n 0, []), (332, 1, .iload_n 3, []), (333, 1, .iconst 1, []),
  (334, 1, .iadd, []), (335, 1, .iaload, []), (336, 1, .aload_n 0, []), (337, 1, .iload_n 3, []), (338, 1, .iconst 2, []), (339, 1, .iadd, []),
  (340, 1, .iaload, []), (341, 3, .invokevirtual 41, [0, 99, 3, 12]), (344, 1, .aload_n 2, []), (345, 1, .aload_n 0, []), (346, 1, .iload_n 3, []), (347, 1, .iconst 1, []),
  (348, 1, .iadd, []), (349, 1, .iaload, []), (350, 1, .aload_n 0, []), (351, 1, .iload_n 3, []), (352, 1, .iconst 2, []), (353, 1, .iadd, []),
  (354, 1, .iaload, []), (355, 3, .invokevirtual 45, [0, 171, 3, 13]), (358, 3, .if_icmp .eq 1367, []), (361, 1, .iconst 0, []), (362, 1, .ireturn, []), (363, 1, .aload_n 1, []),
  (364, 1, .aload_n 0, []), (365, 1, .iload_n 3, []), (366, 1, .iconst 1, []), (367, 1, .iadd, []), (368, 1, .iaload, []), (369, 1, .aload_n 0, []),
  (370, 1, .iload_n 3, []), (371, 1, .iconst 2, []), (372, 1, .iadd, []), (373, 1, .iaload, []), (374, 1, .aload_n 0, []), (375, 1, .iload_n 3, []),
  (376, 1, .iconst 3, []), (377, 1, .iadd, []), (378, 1, .iaload, []), (379, 3, .invokevirtual 46, [0, 100, 4, 12]), (382, 1, .aload_n 2, []), (383, 1, .aload_n 0, []),
  (384, 1, .iload_n 3, []), (385, 1, .iconst 1, []), (386, 1, .iadd, []), (387, 1, .iaload, []), (388, 1, .aload_n 0, []), (389, 1, .iload_n 3, []),
  (390, 1, .iconst 2, []), (391, 1, .iadd, []), (392, 1, .iaload, []), (393, 1, .aload_n 0, []), (394, 1, .iload_n 3, []), (395, 1, .iconst 3, []),
  (396, 1, .iadd, []), (397, 1, .iaload, []), (398, 3, .invokevirtual 50, [0, 175, 4, 13]), (401, 3, .if_icmp .eq 1324, []), (404, 1, .iconst 0, []), (405, 1, .ireturn, []),
  (406, 1, .aload_n 1, []), (407, 1, .aload_n 0, []), (408, 1, .iload_n 3, []), (409, 1, .iconst 1, [])]
set_option maxRecDepth 20000 in
def k_L_law2 : List az_I := [
  (410, 1, .iadd, []), (411, 1, .iaload, []), (412, 1, .aload_n 0, []), (413, 1, .iload_n 3, []), (414, 1, .iconst 2, []), (415, 1, .iadd, []),
  (416, 1, .iaload, []), (417, 1, .aload_n 0, []), (418, 1, .iload_n 3, []), (419, 1, .iconst 3, []), (420, 1, .iadd, []), (421, 1, .iaload, []),
  (422, 1, .aload_n 0, []), (423, 1, .iload_n 3, []), (424, 1, .iconst 4, []), (425, 1, .iadd, []), (426, 1, .iaload, []), (427, 3, .invokevirtual 51, [0, 101, 5, 12]),
  (430, 1, .aload_n 2, []), (431, 1, .aload_n 0, []), (432, 1, .iload_n 3, []), (433, 1, .iconst 1, []), (434, 1, .iadd, []), (435, 1, .iaload, []),
  (436, 1, .aload_n 0, []), (437, 1, .iload_n 3, []), (438, 1, .iconst 2, []), (439, 1, .iadd, []), (440, 1, .iaload, []), (441, 1, .aload_n 0, []),
  (442, 1, .iload_n 3, []), (443, 1, .iconst 3, []), (444, 1, .iadd, []), (445, 1, .iaload, []), (446, 1, .aload_n 0, []), (447, 1, .iload_n 3, []),
  (448, 1, .iconst 4, []), (449, 1, .iadd, []), (450, 1, .iaload, []), (451, 3, .invokevirtual 55, [0, 176, 5, 13]), (454, 3, .if_icmp .eq 1271, []), (457, 1, .iconst 0, []),
  (458, 1, .ireturn, []), (459, 1, .aload_n 1, []), (460, 1, .aload_n 0, []), (461, 1, .iload_n 3, []), (462, 1, .iconst 1, []), (463, 1, .iadd, []),
  (464, 1, .iaload, []), (465, 1, .aload_n 0, []), (466, 1, .iload_n 3, []), (467, 1, .iconst 2, []), (468, 1, .iadd, []), (469, 1, .iaload, []),
  (470, 1, .aload_n 0, []), (471, 1, .iload_n 3, []), (472, 1, .iconst 3, []), (473, 1, .iadd, []), (474, 1, .iaload, []), (475, 1, .aload_n 0, []),
  (476, 1, .iload_n 3, []), (477, 1, .iconst 4, []), (478, 1, .iadd, []), (479, 1, .iaload, []), (480, 1, .aload_n 0, []), (481, 1, .iload_n 3, []),
  (482, 1, .iconst 5, []), (483, 1, .iadd, []), (484, 1, .iaload, []), (485, 3, .invokevirtual 56, [0, 102, 6, 12]), (488, 1, .aload_n 2, []), (489, 1, .aload_n 0, []),
  (490, 1, .iload_n 3, []), (491, 1, .iconst 1, []), (492, 1, .iadd, []), (493, 1, .iaload, []), (494, 1, .aload_n 0, []), (495, 1, .iload_n 3, []),
  (496, 1, .iconst 2, []), (497, 1, .iadd, []), (498, 1, .iaload, []), (499, 1, .aload_n 0, []), (500, 1, .iload_n 3, []), (501, 1, .iconst 3, []),
  (502, 1, .iadd, []), (503, 1, .iaload, []), (504, 1, .aload_n 0, []), (505, 1, .iload_n 3, []), (506, 1, .iconst 4, []), (507, 1, .iadd, []),
  (508, 1, .iaload, []), (509, 1, .aload_n 0, []), (510, 1, .iload_n 3, []), (511, 1, .iconst 5, []), (512, 1, .iadd, []), (513, 1, .iaload, []),
  (514, 3, .invokevirtual 60, [0, 177, 6, 13]), (517, 3, .if_icmp .eq 1208, []), (520, 1, .iconst 0, []), (521, 1, .ireturn, [])]
set_option maxRecDepth 20000 in
def k_L_law3 : List az_I := [
  (522, 1, .aload_n 1, []), (523, 1, .aload_n 0, []), (524, 1, .iload_n 3, []), (525, 1, .iconst 1, []), (526, 1, .iadd, []), (527, 1, .iaload, []),
  (528, 1, .aload_n 0, []), (529, 1, .iload_n 3, []), (530, 1, .iconst 2, []), (531, 1, .iadd, []), (532, 1, .iaload, []), (533, 1, .aload_n 0, []),
  (534, 1, .iload_n 3, []), (535, 1, .iconst 3, []), (536, 1, .iadd, []), (537, 1, .iaload, []), (538, 3, .invokevirtual 61, [0, 103, 4, 12]), (541, 1, .aload_n 2, []),
  (542, 1, .aload_n 0, []), (543, 1, .iload_n 3, []), (544, 1, .iconst 1, []), (545, 1, .iadd, []), (546, 1, .iaload, []), (547, 1, .aload_n 0, []),
  (548, 1, .iload_n 3, []), (549, 1, .iconst 2, []), (550, 1, .iadd, []), (551, 1, .iaload, []), (552, 1, .aload_n 0, []), (553, 1, .iload_n 3, []),
  (554, 1, .iconst 3, []), (555, 1, .iadd, []), (556, 1, .iaload, []), (557, 3, .invokevirtual 64, [0, 178, 4, 13]), (560, 3, .if_icmp .eq 1165, []), (563, 1, .iconst 0, []),
  (564, 1, .ireturn, []), (565, 1, .aload_n 1, []), (566, 1, .aload_n 0, []), (567, 1, .iload_n 3, []), (568, 1, .iconst 1, []), (569, 1, .iadd, []),
  (570, 1, .iaload, []), (571, 1, .aload_n 0, []), (572, 1, .iload_n 3, []), (573, 1, .iconst 2, []), (574, 1, .iadd, []), (575, 1, .iaload, []),
  (576, 3, .invokevirtual 65, [0, 104, 3, 12]), (579, 1, .aload_n 2, []), (580, 1, .aload_n 0, []), (581, 1, .iload_n 3, []), (582, 1, .iconst 1, []), (583, 1, .iadd, []),
  (584, 1, .iaload, []), (585, 1, .aload_n 0, []), (586, 1, .iload_n 3, []), (587, 1, .iconst 2, []), (588, 1, .iadd, []), (589, 1, .iaload, []),
  (590, 3, .invokevirtual 68, [0, 179, 3, 13]), (593, 3, .if_icmp .eq 1132, []), (596, 1, .iconst 0, []), (597, 1, .ireturn, []), (598, 1, .aload_n 1, []), (599, 1, .aload_n 0, []),
  (600, 1, .iload_n 3, []), (601, 1, .iconst 1, []), (602, 1, .iadd, []), (603, 1, .iaload, []), (604, 1, .aload_n 0, []), (605, 1, .iload_n 3, []),
  (606, 1, .iconst 2, []), (607, 1, .iadd, []), (608, 1, .iaload, []), (609, 1, .aload_n 0, []), (610, 1, .iload_n 3, []), (611, 1, .iconst 3, []),
  (612, 1, .iadd, []), (613, 1, .iaload, []), (614, 3, .invokevirtual 69, [0, 105, 4, 12]), (617, 1, .aload_n 2, []), (618, 1, .aload_n 0, []), (619, 1, .iload_n 3, []),
  (620, 1, .iconst 1, []), (621, 1, .iadd, []), (622, 1, .iaload, []), (623, 1, .aload_n 0, []), (624, 1, .iload_n 3, []), (625, 1, .iconst 2, []),
  (626, 1, .iadd, []), (627, 1, .iaload, []), (628, 1, .aload_n 0, []), (629, 1, .iload_n 3, []), (630, 1, .iconst 3, []), (631, 1, .iadd, []),
  (632, 1, .iaload, []), (633, 3, .invokevirtual 72, [0, 182, 4, 13]), (636, 3, .if_icmp .eq 1089, []), (639, 1, .iconst 0, [])]
set_option maxRecDepth 20000 in
def k_L_law4 : List az_I := [
  (640, 1, .ireturn, []), (641, 1, .aload_n 1, []), (642, 1, .aload_n 0, []), (643, 1, .iload_n 3, []), (644, 1, .iconst 1, []), (645, 1, .iadd, []),
  (646, 1, .iaload, []), (647, 1, .aload_n 0, []), (648, 1, .iload_n 3, []), (649, 1, .iconst 2, []), (650, 1, .iadd, []), (651, 1, .iaload, []),
  (652, 1, .aload_n 0, []), (653, 1, .iload_n 3, []), (654, 1, .iconst 3, []), (655, 1, .iadd, []), (656, 1, .iaload, []), (657, 3, .invokevirtual 73, [0, 106, 4, 12]),
  (660, 1, .aload_n 2, []), (661, 1, .aload_n 0, []), (662, 1, .iload_n 3, []), (663, 1, .iconst 1, []), (664, 1, .iadd, []), (665, 1, .iaload, []),
  (666, 1, .aload_n 0, []), (667, 1, .iload_n 3, []), (668, 1, .iconst 2, []), (669, 1, .iadd, []), (670, 1, .iaload, []), (671, 1, .aload_n 0, []),
  (672, 1, .iload_n 3, []), (673, 1, .iconst 3, []), (674, 1, .iadd, []), (675, 1, .iaload, []), (676, 3, .invokevirtual 76, [0, 201, 4, 13]), (679, 3, .if_icmp .eq 1046, []),
  (682, 1, .iconst 0, []), (683, 1, .ireturn, []), (684, 1, .aload_n 1, []), (685, 1, .aload_n 0, []), (686, 1, .iload_n 3, []), (687, 1, .iconst 1, []),
  (688, 1, .iadd, []), (689, 1, .iaload, []), (690, 1, .aload_n 0, []), (691, 1, .iload_n 3, []), (692, 1, .iconst 2, []), (693, 1, .iadd, []),
  (694, 1, .iaload, []), (695, 3, .invokevirtual 77, [0, 107, 3, 12]), (698, 1, .aload_n 2, []), (699, 1, .aload_n 0, []), (700, 1, .iload_n 3, []), (701, 1, .iconst 1, []),
  (702, 1, .iadd, []), (703, 1, .iaload, []), (704, 1, .aload_n 0, []), (705, 1, .iload_n 3, []), (706, 1, .iconst 2, []), (707, 1, .iadd, []),
  (708, 1, .iaload, []), (709, 3, .invokevirtual 80, [0, 203, 3, 13]), (712, 3, .if_icmp .eq 1013, []), (715, 1, .iconst 0, []), (716, 1, .ireturn, []), (717, 1, .aload_n 1, []),
  (718, 1, .aload_n 0, []), (719, 1, .iload_n 3, []), (720, 1, .iconst 1, []), (721, 1, .iadd, []), (722, 1, .iaload, []), (723, 1, .aload_n 0, []),
  (724, 1, .iload_n 3, []), (725, 1, .iconst 2, []), (726, 1, .iadd, []), (727, 1, .iaload, []), (728, 1, .aload_n 0, []), (729, 1, .iload_n 3, []),
  (730, 1, .iconst 3, []), (731, 1, .iadd, []), (732, 1, .iaload, []), (733, 3, .invokevirtual 81, [0, 108, 4, 12]), (736, 1, .aload_n 2, []), (737, 1, .aload_n 0, []),
  (738, 1, .iload_n 3, []), (739, 1, .iconst 1, []), (740, 1, .iadd, []), (741, 1, .iaload, []), (742, 1, .aload_n 0, []), (743, 1, .iload_n 3, []),
  (744, 1, .iconst 2, []), (745, 1, .iadd, []), (746, 1, .iaload, []), (747, 1, .aload_n 0, []), (748, 1, .iload_n 3, []), (749, 1, .iconst 3, []),
  (750, 1, .iadd, []), (751, 1, .iaload, []), (752, 3, .invokevirtual 84, [0, 204, 4, 13]), (755, 3, .if_icmp .eq 970, [])]
set_option maxRecDepth 20000 in
def k_L_law5 : List az_I := [
  (758, 1, .iconst 0, []), (759, 1, .ireturn, []), (760, 1, .aload_n 1, []), (761, 1, .aload_n 0, []), (762, 1, .iload_n 3, []), (763, 1, .iconst 1, []),
  (764, 1, .iadd, []), (765, 1, .iaload, []), (766, 1, .aload_n 0, []), (767, 1, .iload_n 3, []), (768, 1, .iconst 2, []), (769, 1, .iadd, []),
  (770, 1, .iaload, []), (771, 1, .aload_n 0, []), (772, 1, .iload_n 3, []), (773, 1, .iconst 3, []), (774, 1, .iadd, []), (775, 1, .iaload, []),
  (776, 1, .aload_n 0, []), (777, 1, .iload_n 3, []), (778, 1, .iconst 4, []), (779, 1, .iadd, []), (780, 1, .iaload, []), (781, 1, .aload_n 0, []),
  (782, 1, .iload_n 3, []), (783, 1, .iconst 5, []), (784, 1, .iadd, []), (785, 1, .iaload, []), (786, 1, .aload_n 0, []), (787, 1, .iload_n 3, []),
  (788, 2, .bipush 6, []), (790, 1, .iadd, []), (791, 1, .iaload, []), (792, 1, .aload_n 0, []), (793, 1, .iload_n 3, []), (794, 2, .bipush 7, []),
  (796, 1, .iadd, []), (797, 1, .iaload, []), (798, 1, .aload_n 0, []), (799, 1, .iload_n 3, []), (800, 2, .bipush 8, []), (802, 1, .iadd, []),
  (803, 1, .iaload, []), (804, 3, .invokevirtual 85, [0, 109, 9, 12]), (807, 1, .aload_n 2, []), (808, 1, .aload_n 0, []), (809, 1, .iload_n 3, []), (810, 1, .iconst 1, []),
  (811, 1, .iadd, []), (812, 1, .iaload, []), (813, 1, .aload_n 0, []), (814, 1, .iload_n 3, []), (815, 1, .iconst 2, []), (816, 1, .iadd, []),
  (817, 1, .iaload, []), (818, 1, .aload_n 0, []), (819, 1, .iload_n 3, []), (820, 1, .iconst 3, []), (821, 1, .iadd, []), (822, 1, .iaload, []),
  (823, 1, .aload_n 0, []), (824, 1, .iload_n 3, []), (825, 1, .iconst 4, []), (826, 1, .iadd, []), (827, 1, .iaload, []), (828, 1, .aload_n 0, []),
  (829, 1, .iload_n 3, []), (830, 1, .iconst 5, []), (831, 1, .iadd, []), (832, 1, .iaload, []), (833, 1, .aload_n 0, []), (834, 1, .iload_n 3, []),
  (835, 2, .bipush 6, []), (837, 1, .iadd, []), (838, 1, .iaload, []), (839, 1, .aload_n 0, []), (840, 1, .iload_n 3, []), (841, 2, .bipush 7, []),
  (843, 1, .iadd, []), (844, 1, .iaload, []), (845, 1, .aload_n 0, []), (846, 1, .iload_n 3, []), (847, 2, .bipush 8, []), (849, 1, .iadd, []),
  (850, 1, .iaload, []), (851, 3, .invokevirtual 89, [0, 191, 9, 13]), (854, 3, .if_icmp .eq 871, []), (857, 1, .iconst 0, []), (858, 1, .ireturn, []), (859, 1, .aload_n 1, []),
  (860, 1, .aload_n 0, []), (861, 1, .iload_n 3, []), (862, 1, .iconst 1, []), (863, 1, .iadd, []), (864, 1, .iaload, []), (865, 1, .aload_n 0, []),
  (866, 1, .iload_n 3, []), (867, 1, .iconst 2, []), (868, 1, .iadd, []), (869, 1, .iaload, [])]
set_option maxRecDepth 20000 in
def k_L_law6 : List az_I := [
  (870, 1, .aload_n 0, []), (871, 1, .iload_n 3, []), (872, 1, .iconst 3, []), (873, 1, .iadd, []), (874, 1, .iaload, []), (875, 1, .aload_n 0, []),
  (876, 1, .iload_n 3, []), (877, 1, .iconst 4, []), (878, 1, .iadd, []), (879, 1, .iaload, []), (880, 3, .invokevirtual 90, [0, 110, 5, 12]), (883, 1, .aload_n 2, []),
  (884, 1, .aload_n 0, []), (885, 1, .iload_n 3, []), (886, 1, .iconst 1, []), (887, 1, .iadd, []), (888, 1, .iaload, []), (889, 1, .aload_n 0, []),
  (890, 1, .iload_n 3, []), (891, 1, .iconst 2, []), (892, 1, .iadd, []), (893, 1, .iaload, []), (894, 1, .aload_n 0, []), (895, 1, .iload_n 3, []),
  (896, 1, .iconst 3, []), (897, 1, .iadd, []), (898, 1, .iaload, []), (899, 1, .aload_n 0, []), (900, 1, .iload_n 3, []), (901, 1, .iconst 4, []),
  (902, 1, .iadd, []), (903, 1, .iaload, []), (904, 3, .invokevirtual 93, [0, 194, 5, 13]), (907, 3, .if_icmp .eq 818, []), (910, 1, .iconst 0, []), (911, 1, .ireturn, []),
  (912, 1, .aload_n 1, []), (913, 1, .aload_n 0, []), (914, 1, .iload_n 3, []), (915, 1, .iconst 1, []), (916, 1, .iadd, []), (917, 1, .iaload, []),
  (918, 1, .aload_n 0, []), (919, 1, .iload_n 3, []), (920, 1, .iconst 2, []), (921, 1, .iadd, []), (922, 1, .iaload, []), (923, 1, .aload_n 0, []),
  (924, 1, .iload_n 3, []), (925, 1, .iconst 3, []), (926, 1, .iadd, []), (927, 1, .iaload, []), (928, 1, .aload_n 0, []), (929, 1, .iload_n 3, []),
  (930, 1, .iconst 4, []), (931, 1, .iadd, []), (932, 1, .iaload, []), (933, 3, .invokevirtual 94, [0, 111, 5, 12]), (936, 1, .aload_n 2, []), (937, 1, .aload_n 0, []),
  (938, 1, .iload_n 3, []), (939, 1, .iconst 1, []), (940, 1, .iadd, []), (941, 1, .iaload, []), (942, 1, .aload_n 0, []), (943, 1, .iload_n 3, []),
  (944, 1, .iconst 2, []), (945, 1, .iadd, []), (946, 1, .iaload, []), (947, 1, .aload_n 0, []), (948, 1, .iload_n 3, []), (949, 1, .iconst 3, []),
  (950, 1, .iadd, []), (951, 1, .iaload, []), (952, 1, .aload_n 0, []), (953, 1, .iload_n 3, []), (954, 1, .iconst 4, []), (955, 1, .iadd, []),
  (956, 1, .iaload, []), (957, 3, .invokevirtual 97, [0, 189, 5, 13]), (960, 3, .if_icmp .eq 765, []), (963, 1, .iconst 0, []), (964, 1, .ireturn, []), (965, 1, .aload_n 1, []),
  (966, 1, .aload_n 0, []), (967, 1, .iload_n 3, []), (968, 1, .iconst 1, []), (969, 1, .iadd, []), (970, 1, .iaload, []), (971, 1, .aload_n 0, []),
  (972, 1, .iload_n 3, []), (973, 1, .iconst 2, []), (974, 1, .iadd, []), (975, 1, .iaload, []), (976, 1, .aload_n 0, []), (977, 1, .iload_n 3, []),
  (978, 1, .iconst 3, []), (979, 1, .iadd, []), (980, 1, .iaload, []), (981, 1, .aload_n 0, [])]
set_option maxRecDepth 20000 in
def k_L_law7 : List az_I := [
  (982, 1, .iload_n 3, []), (983, 1, .iconst 4, []), (984, 1, .iadd, []), (985, 1, .iaload, []), (986, 1, .aload_n 0, []), (987, 1, .iload_n 3, []),
  (988, 1, .iconst 5, []), (989, 1, .iadd, []), (990, 1, .iaload, []), (991, 3, .invokevirtual 98, [0, 112, 6, 12]), (994, 1, .aload_n 2, []), (995, 1, .aload_n 0, []),
  (996, 1, .iload_n 3, []), (997, 1, .iconst 1, []), (998, 1, .iadd, []), (999, 1, .iaload, []), (1000, 1, .aload_n 0, []), (1001, 1, .iload_n 3, []),
  (1002, 1, .iconst 2, []), (1003, 1, .iadd, []), (1004, 1, .iaload, []), (1005, 1, .aload_n 0, []), (1006, 1, .iload_n 3, []), (1007, 1, .iconst 3, []),
  (1008, 1, .iadd, []), (1009, 1, .iaload, []), (1010, 1, .aload_n 0, []), (1011, 1, .iload_n 3, []), (1012, 1, .iconst 4, []), (1013, 1, .iadd, []),
  (1014, 1, .iaload, []), (1015, 1, .aload_n 0, []), (1016, 1, .iload_n 3, []), (1017, 1, .iconst 5, []), (1018, 1, .iadd, []), (1019, 1, .iaload, []),
  (1020, 3, .invokevirtual 101, [0, 197, 6, 13]), (1023, 3, .if_icmp .eq 702, []), (1026, 1, .iconst 0, []), (1027, 1, .ireturn, []), (1028, 1, .aload_n 1, []), (1029, 1, .aload_n 0, []),
  (1030, 1, .iload_n 3, []), (1031, 1, .iconst 1, []), (1032, 1, .iadd, []), (1033, 1, .iaload, []), (1034, 1, .aload_n 0, []), (1035, 1, .iload_n 3, []),
  (1036, 1, .iconst 2, []), (1037, 1, .iadd, []), (1038, 1, .iaload, []), (1039, 1, .aload_n 0, []), (1040, 1, .iload_n 3, []), (1041, 1, .iconst 3, []),
  (1042, 1, .iadd, []), (1043, 1, .iaload, []), (1044, 1, .aload_n 0, []), (1045, 1, .iload_n 3, []), (1046, 1, .iconst 4, []), (1047, 1, .iadd, []),
  (1048, 1, .iaload, []), (1049, 3, .invokevirtual 102, [0, 113, 5, 12]), (1052, 1, .aload_n 2, []), (1053, 1, .aload_n 0, []), (1054, 1, .iload_n 3, []), (1055, 1, .iconst 1, []),
  (1056, 1, .iadd, []), (1057, 1, .iaload, []), (1058, 1, .aload_n 0, []), (1059, 1, .iload_n 3, []), (1060, 1, .iconst 2, []), (1061, 1, .iadd, []),
  (1062, 1, .iaload, []), (1063, 1, .aload_n 0, []), (1064, 1, .iload_n 3, []), (1065, 1, .iconst 3, []), (1066, 1, .iadd, []), (1067, 1, .iaload, []),
  (1068, 1, .aload_n 0, []), (1069, 1, .iload_n 3, []), (1070, 1, .iconst 4, []), (1071, 1, .iadd, []), (1072, 1, .iaload, []), (1073, 3, .invokevirtual 105, [0, 190, 5, 13]),
  (1076, 3, .if_icmp .eq 649, []), (1079, 1, .iconst 0, []), (1080, 1, .ireturn, []), (1081, 1, .aload_n 1, []), (1082, 1, .aload_n 0, []), (1083, 1, .iload_n 3, []),
  (1084, 1, .iconst 1, []), (1085, 1, .iadd, []), (1086, 1, .iaload, []), (1087, 1, .aload_n 0, []), (1088, 1, .iload_n 3, []), (1089, 1, .iconst 2, []),
  (1090, 1, .iadd, []), (1091, 1, .iaload, []), (1092, 1, .aload_n 0, []), (1093, 1, .iload_n 3, [])]
set_option maxRecDepth 20000 in
def k_L_law8 : List az_I := [
  (1094, 1, .iconst 3, []), (1095, 1, .iadd, []), (1096, 1, .iaload, []), (1097, 1, .aload_n 0, []), (1098, 1, .iload_n 3, []), (1099, 1, .iconst 4, []),
  (1100, 1, .iadd, []), (1101, 1, .iaload, []), (1102, 3, .invokevirtual 106, [0, 114, 5, 12]), (1105, 1, .aload_n 2, []), (1106, 1, .aload_n 0, []), (1107, 1, .iload_n 3, []),
  (1108, 1, .iconst 1, []), (1109, 1, .iadd, []), (1110, 1, .iaload, []), (1111, 1, .aload_n 0, []), (1112, 1, .iload_n 3, []), (1113, 1, .iconst 2, []),
  (1114, 1, .iadd, []), (1115, 1, .iaload, []), (1116, 1, .aload_n 0, []), (1117, 1, .iload_n 3, []), (1118, 1, .iconst 3, []), (1119, 1, .iadd, []),
  (1120, 1, .iaload, []), (1121, 1, .aload_n 0, []), (1122, 1, .iload_n 3, []), (1123, 1, .iconst 4, []), (1124, 1, .iadd, []), (1125, 1, .iaload, []),
  (1126, 3, .invokevirtual 110, [0, 199, 5, 13]), (1129, 1, .lcmp, []), (1130, 3, .ifCond .eq 595, []), (1133, 1, .iconst 0, []), (1134, 1, .ireturn, []), (1135, 1, .aload_n 1, []),
  (1136, 1, .aload_n 0, []), (1137, 1, .iload_n 3, []), (1138, 1, .iconst 1, []), (1139, 1, .iadd, []), (1140, 1, .iaload, []), (1141, 1, .aload_n 0, []),
  (1142, 1, .iload_n 3, []), (1143, 1, .iconst 2, []), (1144, 1, .iadd, []), (1145, 1, .iaload, []), (1146, 1, .aload_n 0, []), (1147, 1, .iload_n 3, []),
  (1148, 1, .iconst 3, []), (1149, 1, .iadd, []), (1150, 1, .iaload, []), (1151, 1, .aload_n 0, []), (1152, 1, .iload_n 3, []), (1153, 1, .iconst 4, []),
  (1154, 1, .iadd, []), (1155, 1, .iaload, []), (1156, 3, .invokevirtual 111, [0, 115, 5, 12]), (1159, 1, .aload_n 2, []), (1160, 1, .aload_n 0, []), (1161, 1, .iload_n 3, []),
  (1162, 1, .iconst 1, []), (1163, 1, .iadd, []), (1164, 1, .iaload, []), (1165, 1, .aload_n 0, []), (1166, 1, .iload_n 3, []), (1167, 1, .iconst 2, []),
  (1168, 1, .iadd, []), (1169, 1, .iaload, []), (1170, 1, .aload_n 0, []), (1171, 1, .iload_n 3, []), (1172, 1, .iconst 3, []), (1173, 1, .iadd, []),
  (1174, 1, .iaload, []), (1175, 1, .aload_n 0, []), (1176, 1, .iload_n 3, []), (1177, 1, .iconst 4, []), (1178, 1, .iadd, []), (1179, 1, .iaload, []),
  (1180, 3, .invokevirtual 114, [0, 200, 5, 13]), (1183, 1, .lcmp, []), (1184, 3, .ifCond .eq 541, []), (1187, 1, .iconst 0, []), (1188, 1, .ireturn, []), (1189, 1, .aload_n 1, []),
  (1190, 1, .aload_n 0, []), (1191, 1, .iload_n 3, []), (1192, 1, .iconst 1, []), (1193, 1, .iadd, []), (1194, 1, .iaload, []), (1195, 1, .aload_n 0, []),
  (1196, 1, .iload_n 3, []), (1197, 1, .iconst 2, []), (1198, 1, .iadd, []), (1199, 1, .iaload, []), (1200, 1, .aload_n 0, []), (1201, 1, .iload_n 3, []),
  (1202, 1, .iconst 3, []), (1203, 1, .iadd, []), (1204, 1, .iaload, []), (1205, 1, .aload_n 0, [])]
set_option maxRecDepth 20000 in
def k_L_law9 : List az_I := [
  (1206, 1, .iload_n 3, []), (1207, 1, .iconst 4, []), (1208, 1, .iadd, []), (1209, 1, .iaload, []), (1210, 1, .aload_n 0, []), (1211, 1, .iload_n 3, []),
  (1212, 1, .iconst 5, []), (1213, 1, .iadd, []), (1214, 1, .iaload, []), (1215, 3, .invokevirtual 115, [0, 116, 6, 12]), (1218, 1, .aload_n 2, []), (1219, 1, .aload_n 0, []),
  (1220, 1, .iload_n 3, []), (1221, 1, .iconst 1, []), (1222, 1, .iadd, []), (1223, 1, .iaload, []), (1224, 1, .aload_n 0, []), (1225, 1, .iload_n 3, []),
  (1226, 1, .iconst 2, []), (1227, 1, .iadd, []), (1228, 1, .iaload, []), (1229, 1, .aload_n 0, []), (1230, 1, .iload_n 3, []), (1231, 1, .iconst 3, []),
  (1232, 1, .iadd, []), (1233, 1, .iaload, []), (1234, 1, .aload_n 0, []), (1235, 1, .iload_n 3, []), (1236, 1, .iconst 4, []), (1237, 1, .iadd, []),
  (1238, 1, .iaload, []), (1239, 1, .aload_n 0, []), (1240, 1, .iload_n 3, []), (1241, 1, .iconst 5, []), (1242, 1, .iadd, []), (1243, 1, .iaload, []),
  (1244, 3, .invokevirtual 118, [0, 206, 6, 13]), (1247, 3, .if_icmp .eq 478, []), (1250, 1, .iconst 0, []), (1251, 1, .ireturn, []), (1252, 1, .aload_n 1, []), (1253, 1, .aload_n 0, []),
  (1254, 1, .iload_n 3, []), (1255, 1, .iconst 1, []), (1256, 1, .iadd, []), (1257, 1, .iaload, []), (1258, 3, .invokevirtual 119, [0, 117, 2, 12]), (1261, 1, .aload_n 2, []),
  (1262, 1, .aload_n 0, []), (1263, 1, .iload_n 3, []), (1264, 1, .iconst 1, []), (1265, 1, .iadd, []), (1266, 1, .iaload, []), (1267, 3, .invokevirtual 122, [0, 207, 2, 13]),
  (1270, 3, .if_icmp .eq 455, []), (1273, 1, .iconst 0, []), (1274, 1, .ireturn, []), (1275, 1, .aload_n 1, []), (1276, 3, .invokevirtual 123, [0, 118, 1, 12]), (1279, 1, .aload_n 2, []),
  (1280, 3, .invokevirtual 126, [0, 230, 1, 13]), (1283, 3, .if_icmp .eq 442, []), (1286, 1, .iconst 0, []), (1287, 1, .ireturn, []), (1288, 1, .aload_n 1, []), (1289, 1, .aload_n 0, []),
  (1290, 1, .iload_n 3, []), (1291, 1, .iconst 1, []), (1292, 1, .iadd, []), (1293, 1, .iaload, []), (1294, 3, .invokevirtual 127, [0, 119, 2, 12]), (1297, 1, .aload_n 2, []),
  (1298, 1, .aload_n 0, []), (1299, 1, .iload_n 3, []), (1300, 1, .iconst 1, []), (1301, 1, .iadd, []), (1302, 1, .iaload, []), (1303, 3, .invokevirtual 130, [0, 231, 2, 13]),
  (1306, 3, .if_icmp .eq 419, []), (1309, 1, .iconst 0, []), (1310, 1, .ireturn, []), (1311, 1, .aload_n 1, []), (1312, 1, .aload_n 0, []), (1313, 1, .iload_n 3, []),
  (1314, 1, .iconst 1, []), (1315, 1, .iadd, []), (1316, 1, .iaload, []), (1317, 1, .aload_n 0, []), (1318, 1, .iload_n 3, []), (1319, 1, .iconst 2, []),
  (1320, 1, .iadd, []), (1321, 1, .iaload, []), (1322, 1, .aload_n 0, []), (1323, 1, .iload_n 3, []), (1324, 1, .iconst 3, []), (1325, 1, .iadd, []),
  (1326, 1, .iaload, []), (1327, 1, .aload_n 0, []), (1328, 1, .iload_n 3, []), (1329, 1, .iconst 4, [])]
set_option maxRecDepth 20000 in
def k_L_law10 : List az_I := [
  (1330, 1, .iadd, []), (1331, 1, .iaload, []), (1332, 1, .aload_n 0, []), (1333, 1, .iload_n 3, []), (1334, 1, .iconst 5, []), (1335, 1, .iadd, []),
  (1336, 1, .iaload, []), (1337, 1, .aload_n 0, []), (1338, 1, .iload_n 3, []), (1339, 2, .bipush 6, []), (1341, 1, .iadd, []), (1342, 1, .iaload, []),
  (1343, 3, .invokevirtual 131, [0, 120, 7, 12]), (1346, 1, .aload_n 2, []), (1347, 1, .aload_n 0, []), (1348, 1, .iload_n 3, []), (1349, 1, .iconst 1, []), (1350, 1, .iadd, []),
  (1351, 1, .iaload, []), (1352, 1, .aload_n 0, []), (1353, 1, .iload_n 3, []), (1354, 1, .iconst 2, []), (1355, 1, .iadd, []), (1356, 1, .iaload, []),
  (1357, 1, .aload_n 0, []), (1358, 1, .iload_n 3, []), (1359, 1, .iconst 3, []), (1360, 1, .iadd, []), (1361, 1, .iaload, []), (1362, 1, .aload_n 0, []),
  (1363, 1, .iload_n 3, []), (1364, 1, .iconst 4, []), (1365, 1, .iadd, []), (1366, 1, .iaload, []), (1367, 1, .aload_n 0, []), (1368, 1, .iload_n 3, []),
  (1369, 1, .iconst 5, []), (1370, 1, .iadd, []), (1371, 1, .iaload, []), (1372, 1, .aload_n 0, []), (1373, 1, .iload_n 3, []), (1374, 2, .bipush 6, []),
  (1376, 1, .iadd, []), (1377, 1, .iaload, []), (1378, 3, .invokevirtual 135, [0, 235, 7, 13]), (1381, 3, .if_icmp .eq 344, []), (1384, 1, .iconst 0, []), (1385, 1, .ireturn, []),
  (1386, 1, .aload_n 1, []), (1387, 1, .aload_n 0, []), (1388, 1, .iload_n 3, []), (1389, 1, .iconst 1, []), (1390, 1, .iadd, []), (1391, 1, .iaload, []),
  (1392, 1, .aload_n 0, []), (1393, 1, .iload_n 3, []), (1394, 1, .iconst 2, []), (1395, 1, .iadd, []), (1396, 1, .iaload, []), (1397, 1, .aload_n 0, []),
  (1398, 1, .iload_n 3, []), (1399, 1, .iconst 3, []), (1400, 1, .iadd, []), (1401, 1, .iaload, []), (1402, 3, .invokevirtual 136, [0, 121, 4, 12]), (1405, 1, .aload_n 2, []),
  (1406, 1, .aload_n 0, []), (1407, 1, .iload_n 3, []), (1408, 1, .iconst 1, []), (1409, 1, .iadd, []), (1410, 1, .iaload, []), (1411, 1, .aload_n 0, []),
  (1412, 1, .iload_n 3, []), (1413, 1, .iconst 2, []), (1414, 1, .iadd, []), (1415, 1, .iaload, []), (1416, 1, .aload_n 0, []), (1417, 1, .iload_n 3, []),
  (1418, 1, .iconst 3, []), (1419, 1, .iadd, []), (1420, 1, .iaload, []), (1421, 3, .invokevirtual 139, [0, 236, 4, 13]), (1424, 3, .if_icmp .eq 301, []), (1427, 1, .iconst 0, []),
  (1428, 1, .ireturn, []), (1429, 1, .aload_n 1, []), (1430, 1, .aload_n 0, []), (1431, 1, .iload_n 3, []), (1432, 1, .iconst 1, []), (1433, 1, .iadd, []),
  (1434, 1, .iaload, []), (1435, 1, .aload_n 0, []), (1436, 1, .iload_n 3, []), (1437, 1, .iconst 2, []), (1438, 1, .iadd, []), (1439, 1, .iaload, []),
  (1440, 1, .aload_n 0, []), (1441, 1, .iload_n 3, []), (1442, 1, .iconst 3, []), (1443, 1, .iadd, [])]
set_option maxRecDepth 20000 in
def k_L_law11 : List az_I := [
  (1444, 1, .iaload, []), (1445, 3, .invokevirtual 140, [0, 122, 4, 12]), (1448, 1, .aload_n 2, []), (1449, 1, .aload_n 0, []), (1450, 1, .iload_n 3, []), (1451, 1, .iconst 1, []),
  (1452, 1, .iadd, []), (1453, 1, .iaload, []), (1454, 1, .aload_n 0, []), (1455, 1, .iload_n 3, []), (1456, 1, .iconst 2, []), (1457, 1, .iadd, []),
  (1458, 1, .iaload, []), (1459, 1, .aload_n 0, []), (1460, 1, .iload_n 3, []), (1461, 1, .iconst 3, []), (1462, 1, .iadd, []), (1463, 1, .iaload, []),
  (1464, 3, .invokevirtual 144, [0, 238, 4, 13]), (1467, 3, .if_icmp .eq 258, []), (1470, 1, .iconst 0, []), (1471, 1, .ireturn, []), (1472, 1, .aload_n 1, []), (1473, 1, .aload_n 0, []),
  (1474, 1, .iload_n 3, []), (1475, 1, .iconst 1, []), (1476, 1, .iadd, []), (1477, 1, .iaload, []), (1478, 1, .aload_n 0, []), (1479, 1, .iload_n 3, []),
  (1480, 1, .iconst 2, []), (1481, 1, .iadd, []), (1482, 1, .iaload, []), (1483, 3, .invokevirtual 145, [0, 123, 3, 12]), (1486, 1, .aload_n 2, []), (1487, 1, .aload_n 0, []),
  (1488, 1, .iload_n 3, []), (1489, 1, .iconst 1, []), (1490, 1, .iadd, []), (1491, 1, .iaload, []), (1492, 1, .aload_n 0, []), (1493, 1, .iload_n 3, []),
  (1494, 1, .iconst 2, []), (1495, 1, .iadd, []), (1496, 1, .iaload, []), (1497, 3, .invokevirtual 148, [0, 239, 3, 13]), (1500, 3, .if_icmp .eq 225, []), (1503, 1, .iconst 0, []),
  (1504, 1, .ireturn, []), (1505, 1, .aload_n 1, []), (1506, 1, .aload_n 0, []), (1507, 1, .iload_n 3, []), (1508, 1, .iconst 1, []), (1509, 1, .iadd, []),
  (1510, 1, .iaload, []), (1511, 1, .aload_n 0, []), (1512, 1, .iload_n 3, []), (1513, 1, .iconst 2, []), (1514, 1, .iadd, []), (1515, 1, .iaload, []),
  (1516, 1, .aload_n 0, []), (1517, 1, .iload_n 3, []), (1518, 1, .iconst 3, []), (1519, 1, .iadd, []), (1520, 1, .iaload, []), (1521, 3, .invokevirtual 149, [0, 124, 4, 12]),
  (1524, 1, .aload_n 2, []), (1525, 1, .aload_n 0, []), (1526, 1, .iload_n 3, []), (1527, 1, .iconst 1, []), (1528, 1, .iadd, []), (1529, 1, .iaload, []),
  (1530, 1, .aload_n 0, []), (1531, 1, .iload_n 3, []), (1532, 1, .iconst 2, []), (1533, 1, .iadd, []), (1534, 1, .iaload, []), (1535, 1, .aload_n 0, []),
  (1536, 1, .iload_n 3, []), (1537, 1, .iconst 3, []), (1538, 1, .iadd, []), (1539, 1, .iaload, []), (1540, 3, .invokevirtual 153, [0, 241, 4, 13]), (1543, 1, .lcmp, []),
  (1544, 3, .ifCond .eq 181, []), (1547, 1, .iconst 0, []), (1548, 1, .ireturn, []), (1549, 1, .aload_n 1, []), (1550, 1, .aload_n 0, []), (1551, 1, .iload_n 3, []),
  (1552, 1, .iconst 1, []), (1553, 1, .iadd, []), (1554, 1, .iaload, []), (1555, 1, .aload_n 0, []), (1556, 1, .iload_n 3, []), (1557, 1, .iconst 2, []),
  (1558, 1, .iadd, []), (1559, 1, .iaload, []), (1560, 1, .aload_n 0, []), (1561, 1, .iload_n 3, [])]
set_option maxRecDepth 20000 in
def k_L_law12 : List az_I := [
  (1562, 1, .iconst 3, []), (1563, 1, .iadd, []), (1564, 1, .iaload, []), (1565, 1, .aload_n 0, []), (1566, 1, .iload_n 3, []), (1567, 1, .iconst 4, []),
  (1568, 1, .iadd, []), (1569, 1, .iaload, []), (1570, 1, .aload_n 0, []), (1571, 1, .iload_n 3, []), (1572, 1, .iconst 5, []), (1573, 1, .iadd, []),
  (1574, 1, .iaload, []), (1575, 3, .invokevirtual 154, [0, 125, 6, 12]), (1578, 1, .aload_n 2, []), (1579, 1, .aload_n 0, []), (1580, 1, .iload_n 3, []), (1581, 1, .iconst 1, []),
  (1582, 1, .iadd, []), (1583, 1, .iaload, []), (1584, 1, .aload_n 0, []), (1585, 1, .iload_n 3, []), (1586, 1, .iconst 2, []), (1587, 1, .iadd, []),
  (1588, 1, .iaload, []), (1589, 1, .aload_n 0, []), (1590, 1, .iload_n 3, []), (1591, 1, .iconst 3, []), (1592, 1, .iadd, []), (1593, 1, .iaload, []),
  (1594, 1, .aload_n 0, []), (1595, 1, .iload_n 3, []), (1596, 1, .iconst 4, []), (1597, 1, .iadd, []), (1598, 1, .iaload, []), (1599, 1, .aload_n 0, []),
  (1600, 1, .iload_n 3, []), (1601, 1, .iconst 5, []), (1602, 1, .iadd, []), (1603, 1, .iaload, []), (1604, 3, .invokevirtual 157, [0, 245, 6, 13]), (1607, 3, .if_icmp .eq 118, []),
  (1610, 1, .iconst 0, []), (1611, 1, .ireturn, []), (1612, 1, .aload_n 1, []), (1613, 1, .aload_n 0, []), (1614, 1, .iload_n 3, []), (1615, 1, .iconst 1, []),
  (1616, 1, .iadd, []), (1617, 1, .iaload, []), (1618, 3, .invokevirtual 158, [0, 126, 2, 12]), (1621, 1, .aload_n 2, []), (1622, 1, .aload_n 0, []), (1623, 1, .iload_n 3, []),
  (1624, 1, .iconst 1, []), (1625, 1, .iadd, []), (1626, 1, .iaload, []), (1627, 3, .invokevirtual 162, [0, 246, 2, 13]), (1630, 1, .lcmp, []), (1631, 3, .ifCond .eq 94, []),
  (1634, 1, .iconst 0, []), (1635, 1, .ireturn, []), (1636, 1, .aload_n 1, []), (1637, 1, .aload_n 0, []), (1638, 1, .iload_n 3, []), (1639, 1, .iconst 1, []),
  (1640, 1, .iadd, []), (1641, 1, .iaload, []), (1642, 1, .aload_n 0, []), (1643, 1, .iload_n 3, []), (1644, 1, .iconst 2, []), (1645, 1, .iadd, []),
  (1646, 1, .iaload, []), (1647, 3, .invokevirtual 163, [0, 127, 3, 12]), (1650, 1, .aload_n 2, []), (1651, 1, .aload_n 0, []), (1652, 1, .iload_n 3, []), (1653, 1, .iconst 1, []),
  (1654, 1, .iadd, []), (1655, 1, .iaload, []), (1656, 1, .aload_n 0, []), (1657, 1, .iload_n 3, []), (1658, 1, .iconst 2, []), (1659, 1, .iadd, []),
  (1660, 1, .iaload, []), (1661, 3, .invokevirtual 166, [0, 249, 3, 13]), (1664, 3, .if_icmp .eq 61, []), (1667, 1, .iconst 0, []), (1668, 1, .ireturn, []), (1669, 1, .aload_n 1, []),
  (1670, 1, .aload_n 0, []), (1671, 1, .iload_n 3, []), (1672, 1, .iconst 1, []), (1673, 1, .iadd, []), (1674, 1, .iaload, []), (1675, 1, .aload_n 0, []),
  (1676, 1, .iload_n 3, []), (1677, 1, .iconst 2, []), (1678, 1, .iadd, []), (1679, 1, .iaload, [])]
set_option maxRecDepth 20000 in
def k_L_law13 : List az_I := [
  (1680, 3, .invokevirtual 167, [0, 128, 3, 12]), (1683, 1, .aload_n 2, []), (1684, 1, .aload_n 0, []), (1685, 1, .iload_n 3, []), (1686, 1, .iconst 1, []), (1687, 1, .iadd, []),
  (1688, 1, .iaload, []), (1689, 1, .aload_n 0, []), (1690, 1, .iload_n 3, []), (1691, 1, .iconst 2, []), (1692, 1, .iadd, []), (1693, 1, .iaload, []),
  (1694, 3, .invokevirtual 170, [0, 250, 3, 13]), (1697, 3, .if_icmp .eq 28, []), (1700, 1, .iconst 0, []), (1701, 1, .ireturn, []), (1702, 1, .aload_n 1, []), (1703, 1, .aload_n 0, []),
  (1704, 1, .iload_n 3, []), (1705, 1, .iconst 1, []), (1706, 1, .iadd, []), (1707, 1, .iaload, []), (1708, 3, .invokevirtual 171, [0, 129, 2, 12]), (1711, 1, .aload_n 2, []),
  (1712, 1, .aload_n 0, []), (1713, 1, .iload_n 3, []), (1714, 1, .iconst 1, []), (1715, 1, .iadd, []), (1716, 1, .iaload, []), (1717, 3, .invokevirtual 174, [0, 251, 2, 13]),
  (1720, 3, .if_icmp .eq 5, []), (1723, 1, .iconst 0, []), (1724, 1, .ireturn, []), (1725, 3, .iinc 3 9, []), (1728, 3, .goto (-1690), []), (1731, 1, .iconst 1, []),
  (1732, 1, .ireturn, [])]
def k_L_law : List az_I := k_L_law0 ++ (k_L_law1 ++ (k_L_law2 ++ (k_L_law3 ++ (k_L_law4 ++ (k_L_law5 ++ (k_L_law6 ++ (k_L_law7 ++ (k_L_law8 ++ (k_L_law9 ++ (k_L_law10 ++ (k_L_law11 ++ (k_L_law12 ++ (k_L_law13)))))))))))))
