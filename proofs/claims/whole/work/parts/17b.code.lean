set_option maxRecDepth 20000 in
def k_X11_sun : List az_I := [
  (0, 1, .iload_n 1, []), (1, 3, .ifCond .lt 16, []), (4, 1, .iload_n 1, []), (5, 2, .bipush 12, []), (7, 3, .if_icmp .ge 10, []), (10, 1, .iload_n 2, []),
  (11, 3, .invokestatic 108, [0, 132, 1, 999]), (14, 3, .ifCond .ne 5, []), (17, 1, .iconst 0, []), (18, 1, .ireturn, []), (19, 1, .iload_n 3, []), (20, 3, .sipush 300, []),
  (23, 3, .invokestatic 112, [0, 134, 2, 999]), (26, 3, .ifCond .eq 14, []), (29, 2, .iload 4, []), (31, 3, .sipush 300, []), (34, 3, .invokestatic 112, [0, 134, 2, 999]), (37, 3, .ifCond .ne 5, []),
  (40, 1, .iconst 0, []), (41, 1, .ireturn, []), (42, 1, .aload_n 0, []), (43, 3, .getfield 10, [12, 1]), (46, 1, .iload_n 1, []), (47, 1, .iload_n 2, []),
  (48, 1, .iload_n 3, []), (49, 2, .iload 4, []), (51, 3, .invokevirtual 116, [0, 47, 5, 7]), (54, 1, .iconst 1, []), (55, 1, .ireturn, [])]
set_option maxRecDepth 20000 in
def k_X11_cloud : List az_I := [
  (0, 1, .iload_n 1, []), (1, 3, .invokestatic 120, [0, 130, 1, 999]), (4, 3, .ifCond .eq 22, []), (7, 1, .iload_n 2, []), (8, 3, .invokestatic 108, [0, 132, 1, 999]), (11, 3, .ifCond .eq 15, []),
  (14, 1, .aload_n 0, []), (15, 3, .getfield 10, [12, 1]), (18, 1, .iload_n 1, []), (19, 1, .iload_n 2, []), (20, 3, .invokevirtual 123, [0, 50, 3, 7]), (23, 3, .ifCond .eq 5, []),
  (26, 1, .iconst (-1), []), (27, 1, .ireturn, []), (28, 1, .aload_n 0, []), (29, 3, .getfield 10, [12, 1]), (32, 1, .iload_n 1, []), (33, 1, .iload_n 2, []),
  (34, 3, .invokevirtual 126, [0, 51, 3, 7]), (37, 1, .ireturn, [])]
set_option maxRecDepth 20000 in
def k_X11_person : List az_I := [
  (0, 1, .aload_n 0, []), (1, 3, .getfield 19, [12, 2]), (4, 3, .invokevirtual 130, [0, 270, 1, 0]), (7, 2, .bipush 16, []), (9, 3, .if_icmp .lt 5, []), (12, 1, .iconst (-1), []),
  (13, 1, .ireturn, []), (14, 1, .aload_n 0, []), (15, 3, .getfield 19, [12, 2]), (18, 3, .new 133, [4]), (21, 1, .dup, []), (22, 3, .invokespecial 135, [0, 24, 1, 4]),
  (25, 3, .invokevirtual 136, [0, 274, 2, 0]), (28, 1, .pop, []), (29, 1, .aload_n 0, []), (30, 3, .getfield 19, [12, 2]), (33, 3, .invokevirtual 130, [0, 270, 1, 0]), (36, 1, .iconst 1, []),
  (37, 1, .isub, []), (38, 1, .ireturn, [])]
set_option maxRecDepth 20000 in
def k_X11_died : List az_I := [
  (0, 1, .aload_n 0, []), (1, 1, .iload_n 1, []), (2, 3, .invokevirtual 140, [0, 138, 2, 12]), (5, 3, .ifCond .eq 15, []), (8, 1, .iload_n 2, []), (9, 3, .ifCond .lt 11, []),
  (12, 1, .iload_n 2, []), (13, 1, .aload_n 0, []), (14, 3, .getfield 105, [12, 15]), (17, 3, .if_icmp .le 5, []), (20, 1, .iconst 0, []), (21, 1, .ireturn, []),
  (22, 1, .aload_n 0, []), (23, 3, .getfield 19, [12, 2]), (26, 1, .iload_n 1, []), (27, 3, .invokevirtual 143, [0, 272, 2, 0]), (30, 3, .checkcast 133, [4]), (33, 1, .astore_n 3, []),
  (34, 1, .aload_n 3, []), (35, 3, .getfield 147, [4, 0]), (38, 1, .iconst (-1), []), (39, 3, .if_icmp .eq 5, []), (42, 1, .iconst 0, []), (43, 1, .ireturn, []),
  (44, 1, .aload_n 3, []), (45, 1, .iload_n 2, []), (46, 3, .putfield 147, [4, 0]), (49, 1, .aload_n 3, []), (50, 1, .aload_n 0, []), (51, 3, .getfield 105, [12, 15]),
  (54, 3, .putfield 150, [4, 1]), (57, 1, .iconst 1, []), (58, 1, .ireturn, [])]
set_option maxRecDepth 20000 in
def k_X11_wall : List az_I := [
  (0, 1, .aload_n 0, []), (1, 1, .iload_n 1, []), (2, 1, .iload_n 2, []), (3, 1, .iload_n 3, []), (4, 3, .invokevirtual 153, [0, 141, 4, 12]), (7, 3, .ifCond .ne 5, []),
  (10, 1, .iconst (-1), []), (11, 1, .ireturn, []), (12, 1, .aload_n 0, []), (13, 3, .new 157, [11]), (16, 1, .dup, []), (17, 1, .iconst 0, []),
  (18, 1, .iload_n 1, []), (19, 1, .iload_n 2, []), (20, 1, .aload_n 0, []), (21, 3, .getfield 105, [12, 15]), (24, 3, .invokespecial 159, [0, 85, 5, 11]), (27, 1, .iload_n 3, []),
  (28, 3, .invokevirtual 161, [0, 143, 3, 12]), (31, 1, .ireturn, [])]
set_option maxRecDepth 20000 in
def k_X11_tree : List az_I := [
  (0, 2, .iload 4, []), (2, 1, .iconst 1, []), (3, 3, .if_icmp .lt 21, []), (6, 2, .iload 4, []), (8, 3, .sipush 999, []), (11, 3, .if_icmp .gt 13, []),
  (14, 1, .aload_n 0, []), (15, 1, .iload_n 1, []), (16, 1, .iload_n 2, []), (17, 1, .iload_n 3, []), (18, 3, .invokevirtual 153, [0, 141, 4, 12]), (21, 3, .ifCond .ne 5, []),
  (24, 1, .iconst (-1), []), (25, 1, .ireturn, []), (26, 3, .new 157, [11]), (29, 1, .dup, []), (30, 1, .iconst 1, []), (31, 1, .iload_n 1, []),
  (32, 1, .iload_n 2, []), (33, 1, .aload_n 0, []), (34, 3, .getfield 105, [12, 15]), (37, 3, .invokespecial 159, [0, 85, 5, 11]), (40, 2, .astore 5, []), (42, 2, .aload 5, []),
  (44, 2, .iload 4, []), (46, 3, .putfield 165, [11, 4]), (49, 1, .aload_n 0, []), (50, 2, .aload 5, []), (52, 1, .iload_n 3, []), (53, 3, .invokevirtual 161, [0, 143, 3, 12]),
  (56, 1, .ireturn, [])]
set_option maxRecDepth 20000 in
def k_X11_pole : List az_I := [
  (0, 2, .iload 4, []), (2, 2, .bipush 50, []), (4, 3, .invokestatic 112, [0, 134, 2, 999]), (7, 3, .ifCond .eq 23, []), (10, 2, .iload 5, []), (12, 2, .bipush 50, []),
  (14, 3, .invokestatic 112, [0, 134, 2, 999]), (17, 3, .ifCond .eq 13, []), (20, 1, .aload_n 0, []), (21, 1, .iload_n 1, []), (22, 1, .iload_n 2, []), (23, 1, .iload_n 3, []),
  (24, 3, .invokevirtual 153, [0, 141, 4, 12]), (27, 3, .ifCond .ne 5, []), (30, 1, .iconst (-1), []), (31, 1, .ireturn, []), (32, 3, .new 157, [11]), (35, 1, .dup, []),
  (36, 1, .iconst 2, []), (37, 1, .iload_n 1, []), (38, 1, .iload_n 2, []), (39, 1, .aload_n 0, []), (40, 3, .getfield 105, [12, 15]), (43, 3, .invokespecial 159, [0, 85, 5, 11]),
  (46, 2, .astore 6, []), (48, 2, .aload 6, []), (50, 2, .iload 4, []), (52, 3, .putfield 168, [11, 5]), (55, 2, .aload 6, []), (57, 2, .iload 5, []),
  (59, 3, .putfield 171, [11, 6]), (62, 1, .aload_n 0, []), (63, 2, .aload 6, []), (65, 1, .iload_n 3, []), (66, 3, .invokevirtual 161, [0, 143, 3, 12]), (69, 1, .ireturn, [])]
set_option maxRecDepth 20000 in
def k_X11_raise : List az_I := [
  (0, 1, .aload_n 0, []), (1, 1, .iload_n 1, []), (2, 3, .invokevirtual 174, [0, 139, 2, 12]), (5, 3, .ifCond .eq 17, []), (8, 1, .iload_n 2, []), (9, 3, .invokestatic 120, [0, 130, 1, 999]),
  (12, 3, .ifCond .eq 10, []), (15, 1, .iload_n 3, []), (16, 3, .invokestatic 177, [0, 133, 1, 999]), (19, 3, .ifCond .ne 5, []), (22, 1, .iconst (-1), []), (23, 1, .ireturn, []),
  (24, 1, .aload_n 0, []), (25, 3, .getfield 23, [12, 3]), (28, 1, .iload_n 1, []), (29, 3, .invokevirtual 143, [0, 272, 2, 0]), (32, 3, .checkcast 157, [11]), (35, 2, .astore 4, []),
  (37, 1, .iload_n 2, []), (38, 2, .aload 4, []), (40, 3, .getfield 180, [11, 3]), (43, 3, .if_icmp .lt 21, []), (46, 2, .aload 4, []), (48, 3, .invokevirtual 183, [0, 89, 1, 11]),
  (51, 3, .ifCond .ne 13, []), (54, 2, .aload 4, []), (56, 3, .getfield 187, [11, 10]), (59, 2, .bipush 40, []), (61, 3, .if_icmp .lt 5, []), (64, 1, .iconst (-1), []),
  (65, 1, .ireturn, []), (66, 2, .aload 4, []), (68, 1, .iload_n 2, []), (69, 1, .iload_n 3, []), (70, 1, .aload_n 0, []), (71, 3, .getfield 105, [12, 15]),
  (74, 3, .invokevirtual 190, [0, 86, 4, 11]), (77, 2, .aload 4, []), (79, 3, .getfield 187, [11, 10]), (82, 1, .ireturn, [])]
set_option maxRecDepth 20000 in
def k_X11_fell : List az_I := [
  (0, 1, .aload_n 0, []), (1, 1, .iload_n 1, []), (2, 3, .invokevirtual 174, [0, 139, 2, 12]), (5, 3, .ifCond .ne 5, []), (8, 1, .iconst 0, []), (9, 1, .ireturn, []),
  (10, 1, .aload_n 0, []), (11, 3, .getfield 23, [12, 3]), (14, 1, .iload_n 1, []), (15, 3, .invokevirtual 143, [0, 272, 2, 0]), (18, 3, .checkcast 157, [11]), (21, 1, .astore_n 3, []),
  (22, 1, .iload_n 2, []), (23, 1, .aload_n 3, []), (24, 3, .getfield 180, [11, 3]), (27, 3, .if_icmp .lt 18, []), (30, 1, .iload_n 2, []), (31, 1, .aload_n 0, []),
  (32, 3, .getfield 105, [12, 15]), (35, 3, .if_icmp .gt 10, []), (38, 1, .aload_n 3, []), (39, 3, .invokevirtual 183, [0, 89, 1, 11]), (42, 3, .ifCond .eq 5, []), (45, 1, .iconst 0, []),
  (46, 1, .ireturn, []), (47, 1, .aload_n 3, []), (48, 1, .iload_n 2, []), (49, 3, .putfield 194, [11, 11]), (52, 1, .aload_n 3, []), (53, 1, .aload_n 0, []),
  (54, 3, .getfield 105, [12, 15]), (57, 3, .putfield 197, [11, 12]), (60, 1, .iconst 1, []), (61, 1, .ireturn, [])]
set_option maxRecDepth 20000 in
def k_X11_height : List az_I := [
  (0, 1, .aload_n 0, []), (1, 1, .iload_n 1, []), (2, 3, .invokevirtual 174, [0, 139, 2, 12]), (5, 3, .ifCond .eq 17, []), (8, 1, .iload_n 2, []), (9, 3, .invokestatic 120, [0, 130, 1, 999]),
  (12, 3, .ifCond .eq 10, []), (15, 1, .iload_n 3, []), (16, 3, .invokestatic 120, [0, 130, 1, 999]), (19, 3, .ifCond .ne 5, []), (22, 1, .iconst (-1), []), (23, 1, .ireturn, []),
  (24, 1, .aload_n 0, []), (25, 3, .getfield 23, [12, 3]), (28, 1, .iload_n 1, []), (29, 3, .invokevirtual 143, [0, 272, 2, 0]), (32, 3, .checkcast 157, [11]), (35, 1, .iload_n 2, []),
  (36, 1, .iload_n 3, []), (37, 3, .invokevirtual 200, [0, 90, 3, 11]), (40, 1, .ireturn, [])]
set_option maxRecDepth 20000 in
def k_X11_measure : List az_I := [
  (0, 1, .aload_n 0, []), (1, 1, .iload_n 1, []), (2, 3, .invokevirtual 174, [0, 139, 2, 12]), (5, 3, .ifCond .eq 21, []), (8, 1, .iload_n 2, []), (9, 3, .invokestatic 108, [0, 132, 1, 999]),
  (12, 3, .ifCond .eq 14, []), (15, 1, .aload_n 0, []), (16, 3, .getfield 68, [12, 0]), (19, 1, .iload_n 3, []), (20, 3, .invokevirtual 203, [0, 5, 2, 2]), (23, 3, .ifCond .ne 5, []),
  (26, 1, .iconst (-1), []), (27, 1, .ireturn, []), (28, 1, .aload_n 0, []), (29, 3, .getfield 23, [12, 3]), (32, 1, .iload_n 1, []), (33, 3, .invokevirtual 143, [0, 272, 2, 0]),
  (36, 3, .checkcast 157, [11]), (39, 2, .astore 4, []), (41, 2, .aload 4, []), (43, 1, .aload_n 0, []), (44, 3, .getfield 105, [12, 15]), (47, 1, .aload_n 0, []),
  (48, 3, .getfield 105, [12, 15]), (51, 3, .invokevirtual 200, [0, 90, 3, 11]), (54, 2, .istore 5, []), (56, 2, .iload 5, []), (58, 1, .iconst (-1), []), (59, 3, .if_icmp .eq 30, []),
  (62, 2, .aload 4, []), (64, 3, .getfield 206, [11, 13]), (67, 1, .aload_n 0, []), (68, 3, .getfield 105, [12, 15]), (71, 3, .if_icmp .eq 18, []), (74, 1, .aload_n 0, []),
  (75, 3, .getfield 10, [12, 1]), (78, 1, .aload_n 0, []), (79, 3, .getfield 105, [12, 15]), (82, 1, .iload_n 2, []), (83, 3, .invokevirtual 123, [0, 50, 3, 7]), (86, 3, .ifCond .eq 5, []),
  (89, 1, .iconst (-1), []), (90, 1, .ireturn, []), (91, 1, .aload_n 0, []), (92, 2, .aload 4, []), (94, 1, .iload_n 2, []), (95, 1, .iload_n 3, []),
  (96, 2, .iload 5, []), (98, 3, .invokevirtual 209, [0, 145, 5, 12]), (101, 2, .istore 6, []), (103, 2, .iload 6, []), (105, 1, .iconst (-1), []), (106, 3, .if_icmp .eq 20, []),
  (109, 2, .iload 6, []), (111, 2, .iload 5, []), (113, 3, .if_icmp .eq 15, []), (116, 2, .aload 4, []), (118, 3, .getfield 187, [11, 10]), (121, 2, .bipush 40, []),
  (123, 3, .if_icmp .lt 5, []), (126, 1, .iconst (-1), []), (127, 1, .ireturn, []), (128, 2, .iload 6, []), (130, 2, .iload 5, []), (132, 3, .if_icmp .eq 14, []),
  (135, 2, .aload 4, []), (137, 2, .iload 6, []), (139, 1, .aload_n 0, []), (140, 3, .getfield 105, [12, 15]), (143, 3, .invokevirtual 213, [0, 93, 3, 11]), (146, 2, .aload 4, []),
  (148, 1, .aload_n 0, []), (149, 3, .getfield 105, [12, 15]), (152, 3, .putfield 206, [11, 13]), (155, 2, .aload 4, []), (157, 1, .aload_n 0, []), (158, 3, .getfield 105, [12, 15]),
  (161, 1, .aload_n 0, []), (162, 3, .getfield 105, [12, 15]), (165, 3, .invokevirtual 200, [0, 90, 3, 11]), (168, 1, .ireturn, [])]
set_option maxRecDepth 20000 in
def k_X11_thing : List az_I := [
  (0, 1, .aload_n 0, []), (1, 1, .iload_n 1, []), (2, 3, .invokevirtual 174, [0, 139, 2, 12]), (5, 3, .ifCond .ne 5, []), (8, 1, .iconst (-1), []), (9, 1, .ireturn, []),
  (10, 1, .aload_n 0, []), (11, 3, .getfield 23, [12, 3]), (14, 1, .iload_n 1, []), (15, 3, .invokevirtual 143, [0, 272, 2, 0]), (18, 3, .checkcast 157, [11]), (21, 1, .astore_n 3, []),
  (22, 1, .iload_n 2, []), (23, 45, .tableswitch 85 0 7 #[45, 50, 55, 60, 65, 70, 75, 80], []), (68, 1, .aload_n 3, []), (69, 3, .getfield 216, [11, 0]), (72, 1, .ireturn, []), (73, 1, .aload_n 3, []),
  (74, 3, .getfield 219, [11, 1]), (77, 1, .ireturn, []), (78, 1, .aload_n 3, []), (79, 3, .getfield 222, [11, 2]), (82, 1, .ireturn, []), (83, 1, .aload_n 3, []),
  (84, 3, .getfield 180, [11, 3]), (87, 1, .ireturn, []), (88, 1, .aload_n 3, []), (89, 3, .getfield 187, [11, 10]), (92, 1, .ireturn, []), (93, 1, .aload_n 3, []),
  (94, 3, .getfield 194, [11, 11]), (97, 1, .ireturn, []), (98, 1, .aload_n 3, []), (99, 3, .getfield 206, [11, 13]), (102, 1, .ireturn, []), (103, 1, .aload_n 3, []),
  (104, 3, .getfield 165, [11, 4]), (107, 1, .ireturn, []), (108, 1, .iconst (-1), []), (109, 1, .ireturn, [])]
set_option maxRecDepth 20000 in
def k_X11_entry : List az_I := [
  (0, 1, .aload_n 0, []), (1, 1, .iload_n 1, []), (2, 3, .invokevirtual 174, [0, 139, 2, 12]), (5, 3, .ifCond .eq 22, []), (8, 1, .aload_n 0, []), (9, 3, .getfield 23, [12, 3]),
  (12, 1, .iload_n 1, []), (13, 3, .invokevirtual 143, [0, 272, 2, 0]), (16, 3, .checkcast 157, [11]), (19, 1, .iload_n 2, []), (20, 1, .iload_n 3, []), (21, 3, .invokevirtual 225, [0, 88, 3, 11]),
  (24, 3, .goto 4, []), (27, 1, .iconst (-1), []), (28, 1, .ireturn, [])]
set_option maxRecDepth 20000 in
def k_X11_grant : List az_I := [
  (0, 1, .aload_n 0, []), (1, 1, .iload_n 1, []), (2, 3, .invokevirtual 140, [0, 138, 2, 12]), (5, 3, .ifCond .eq 24, []), (8, 1, .aload_n 0, []), (9, 1, .iload_n 2, []),
  (10, 3, .invokevirtual 140, [0, 138, 2, 12]), (13, 3, .ifCond .eq 16, []), (16, 1, .iload_n 1, []), (17, 1, .iload_n 2, []), (18, 3, .if_icmp .eq 11, []), (21, 1, .aload_n 0, []),
  (22, 1, .iload_n 3, []), (23, 3, .invokevirtual 174, [0, 139, 2, 12]), (26, 3, .ifCond .ne 5, []), (29, 1, .iconst (-1), []), (30, 1, .ireturn, []), (31, 2, .iload 4, []),
  (33, 3, .invokestatic 228, [0, 135, 1, 999]), (36, 3, .ifCond .eq 24, []), (39, 2, .iload 4, []), (41, 2, .bipush 16, []), (43, 1, .idiv, []), (44, 2, .iload 4, []),
  (46, 2, .bipush 16, []), (48, 1, .irem, []), (49, 3, .if_icmp .gt 11, []), (52, 2, .iload 5, []), (54, 3, .invokestatic 228, [0, 135, 1, 999]), (57, 3, .ifCond .ne 5, []),
  (60, 1, .iconst (-1), []), (61, 1, .ireturn, []), (62, 2, .iload 6, []), (64, 2, .iload 7, []), (66, 3, .invokestatic 231, [0, 131, 2, 999]), (69, 3, .ifCond .eq 26, []),
  (72, 2, .iload 8, []), (74, 3, .ifCond .lt 21, []), (77, 2, .iload 8, []), (79, 1, .iconst 2, []), (80, 3, .if_icmp .gt 15, []), (83, 1, .aload_n 0, []),
  (84, 3, .getfield 26, [12, 4]), (87, 3, .invokevirtual 130, [0, 270, 1, 0]), (90, 2, .bipush 60, []), (92, 3, .if_icmp .lt 5, []), (95, 1, .iconst (-1), []), (96, 1, .ireturn, []),
  (97, 3, .new 234, [1]), (100, 1, .dup, []), (101, 1, .iload_n 1, []), (102, 1, .aload_n 0, []), (103, 3, .getfield 19, [12, 2]), (106, 1, .iload_n 1, []),
  (107, 3, .invokevirtual 143, [0, 272, 2, 0]), (110, 3, .checkcast 133, [4]), (113, 1, .iload_n 2, []), (114, 1, .iload_n 3, []), (115, 2, .iload 8, []), (117, 1, .aload_n 0, []),
  (118, 3, .getfield 105, [12, 15]), (121, 3, .invokespecial 236, [0, 0, 7, 1]), (124, 2, .astore 9, []), (126, 2, .aload 9, []), (128, 2, .iload 4, []), (130, 2, .iload 5, []),
  (132, 2, .iload 6, []), (134, 2, .iload 7, []), (136, 3, .invokevirtual 239, [0, 1, 5, 1]), (139, 1, .aload_n 0, []), (140, 3, .getfield 26, [12, 4]), (143, 2, .aload 9, []),
  (145, 3, .invokevirtual 136, [0, 274, 2, 0]), (148, 1, .pop, []), (149, 1, .aload_n 0, []), (150, 3, .getfield 26, [12, 4]), (153, 3, .invokevirtual 130, [0, 270, 1, 0]), (156, 1, .iconst 1, []),
  (157, 1, .isub, []), (158, 1, .ireturn, [])]
set_option maxRecDepth 20000 in
def k_X11_holder : List az_I := [
  (0, 1, .aload_n 0, []), (1, 1, .iload_n 1, []), (2, 3, .invokevirtual 174, [0, 139, 2, 12]), (5, 3, .ifCond .eq 25, []), (8, 1, .iload_n 2, []), (9, 3, .invokestatic 120, [0, 130, 1, 999]),
  (12, 3, .ifCond .eq 18, []), (15, 1, .iload_n 3, []), (16, 3, .invokestatic 108, [0, 132, 1, 999]), (19, 3, .ifCond .eq 11, []), (22, 2, .iload 4, []), (24, 3, .invokestatic 120, [0, 130, 1, 999]),
  (27, 3, .ifCond .ne 5, []), (30, 1, .iconst (-1), []), (31, 1, .ireturn, []), (32, 1, .aload_n 0, []), (33, 3, .getfield 23, [12, 3]), (36, 1, .iload_n 1, []),
  (37, 3, .invokevirtual 143, [0, 272, 2, 0]), (40, 3, .checkcast 157, [11]), (43, 1, .iload_n 2, []), (44, 2, .iload 4, []), (46, 3, .invokevirtual 200, [0, 90, 3, 11]), (49, 1, .iconst (-1), []),
  (50, 3, .if_icmp .ne 5, []), (53, 1, .iconst (-1), []), (54, 1, .ireturn, []), (55, 1, .aload_n 0, []), (56, 1, .iload_n 2, []), (57, 1, .iload_n 3, []),
  (58, 2, .iload 4, []), (60, 3, .invokevirtual 242, [0, 146, 4, 12]), (63, 1, .iload_n 1, []), (64, 1, .aload_n 0, []), (65, 3, .getfield 43, [12, 11]), (68, 1, .arraylength, []),
  (69, 3, .if_icmp .ge 12, []), (72, 1, .aload_n 0, []), (73, 3, .getfield 43, [12, 11]), (76, 1, .iload_n 1, []), (77, 1, .iaload, []), (78, 3, .goto 4, []),
  (81, 1, .iconst (-1), []), (82, 1, .ireturn, [])]
set_option maxRecDepth 20000 in
def k_X11_shaded : List az_I := [
  (0, 1, .aload_n 0, []), (1, 3, .getfield 68, [12, 0]), (4, 1, .iload_n 1, []), (5, 3, .invokevirtual 203, [0, 5, 2, 2]), (8, 3, .ifCond .eq 25, []), (11, 1, .iload_n 2, []),
  (12, 3, .invokestatic 120, [0, 130, 1, 999]), (15, 3, .ifCond .eq 18, []), (18, 1, .iload_n 3, []), (19, 3, .invokestatic 108, [0, 132, 1, 999]), (22, 3, .ifCond .eq 11, []), (25, 2, .iload 4, []),
  (27, 3, .invokestatic 120, [0, 130, 1, 999]), (30, 3, .ifCond .ne 5, []), (33, 1, .iconst (-1), []), (34, 1, .ireturn, []), (35, 1, .aload_n 0, []), (36, 3, .getfield 77, [12, 6]),
  (39, 1, .iload_n 2, []), (40, 2, .iload 4, []), (42, 3, .invokevirtual 245, [0, 37, 3, 6]), (45, 1, .aload_n 0, []), (46, 3, .getfield 77, [12, 6]), (49, 1, .iload_n 3, []),
  (50, 3, .invokevirtual 248, [0, 38, 2, 6]), (53, 1, .aload_n 0, []), (54, 3, .getfield 77, [12, 6]), (57, 1, .iload_n 1, []), (58, 3, .invokevirtual 252, [0, 42, 2, 6]), (61, 1, .ireturn, [])]
set_option maxRecDepth 20000 in
def k_X11_parts : List az_I := [
  (0, 1, .aload_n 0, []), (1, 1, .iload_n 1, []), (2, 3, .invokevirtual 140, [0, 138, 2, 12]), (5, 3, .ifCond .eq 37, []), (8, 1, .aload_n 0, []), (9, 3, .getfield 68, [12, 0]),
  (12, 1, .iload_n 2, []), (13, 3, .invokevirtual 203, [0, 5, 2, 2]), (16, 3, .ifCond .eq 26, []), (19, 1, .iload_n 3, []), (20, 3, .invokestatic 120, [0, 130, 1, 999]), (23, 3, .ifCond .eq 19, []),
  (26, 2, .iload 4, []), (28, 3, .invokestatic 108, [0, 132, 1, 999]), (31, 3, .ifCond .eq 11, []), (34, 2, .iload 5, []), (36, 3, .invokestatic 120, [0, 130, 1, 999]), (39, 3, .ifCond .ne 5, []),
  (42, 1, .iconst (-1), []), (43, 1, .ireturn, []), (44, 1, .aload_n 0, []), (45, 3, .getfield 77, [12, 6]), (48, 1, .iload_n 3, []), (49, 2, .iload 5, []),
  (51, 3, .invokevirtual 245, [0, 37, 3, 6]), (54, 1, .aload_n 0, []), (55, 3, .getfield 77, [12, 6]), (58, 2, .iload 4, []), (60, 3, .invokevirtual 248, [0, 38, 2, 6]), (63, 1, .aload_n 0, []),
  (64, 3, .getfield 77, [12, 6]), (67, 1, .aload_n 0, []), (68, 1, .iload_n 1, []), (69, 1, .iload_n 3, []), (70, 2, .iload 4, []), (72, 2, .iload 5, []),
  (74, 3, .invokevirtual 256, [0, 147, 5, 12]), (77, 1, .iload_n 2, []), (78, 3, .invokevirtual 260, [0, 43, 3, 6]), (81, 1, .ireturn, [])]
set_option maxRecDepth 20000 in
def k_X11_shadow : List az_I := [
  (0, 1, .aload_n 0, []), (1, 1, .iload_n 1, []), (2, 3, .invokevirtual 174, [0, 139, 2, 12]), (5, 3, .ifCond .eq 25, []), (8, 1, .iload_n 2, []), (9, 3, .invokestatic 120, [0, 130, 1, 999]),
  (12, 3, .ifCond .eq 18, []), (15, 1, .iload_n 3, []), (16, 3, .invokestatic 108, [0, 132, 1, 999]), (19, 3, .ifCond .eq 11, []), (22, 2, .iload 4, []), (24, 3, .invokestatic 120, [0, 130, 1, 999]),
  (27, 3, .ifCond .ne 5, []), (30, 1, .iconst (-1), []), (31, 1, .ireturn, []), (32, 1, .aload_n 0, []), (33, 3, .getfield 77, [12, 6]), (36, 1, .iload_n 2, []),
  (37, 2, .iload 4, []), (39, 3, .invokevirtual 245, [0, 37, 3, 6]), (42, 1, .aload_n 0, []), (43, 3, .getfield 77, [12, 6]), (46, 1, .iload_n 3, []), (47, 3, .invokevirtual 248, [0, 38, 2, 6]),
  (50, 1, .aload_n 0, []), (51, 3, .getfield 77, [12, 6]), (54, 1, .iload_n 1, []), (55, 3, .invokevirtual 263, [0, 45, 2, 6]), (58, 1, .ireturn, [])]
set_option maxRecDepth 20000 in
def k_X11_account : List az_I := [
  (0, 1, .aload_n 0, []), (1, 1, .iload_n 1, []), (2, 3, .invokevirtual 140, [0, 138, 2, 12]), (5, 3, .ifCond .eq 27, []), (8, 1, .iload_n 2, []), (9, 1, .iload_n 3, []),
  (10, 3, .invokestatic 231, [0, 131, 2, 999]), (13, 3, .ifCond .eq 19, []), (16, 1, .iload_n 3, []), (17, 1, .iload_n 2, []), (18, 1, .isub, []), (19, 2, .bipush 60, []),
  (21, 3, .if_icmp .ge 11, []), (24, 2, .iload 4, []), (26, 3, .invokestatic 120, [0, 130, 1, 999]), (29, 3, .ifCond .ne 7, []), (32, 3, .ldc2_w 266, [18446744073709551615]), (35, 1, .lreturn, []),
  (36, 1, .lconst 0, []), (37, 2, .lstore 5, []), (39, 1, .iload_n 2, []), (40, 2, .istore 7, []), (42, 2, .iload 7, []), (44, 1, .iload_n 3, []),
  (45, 3, .if_icmp .gt 23, []), (48, 2, .lload 5, []), (50, 1, .aload_n 0, []), (51, 1, .iload_n 1, []), (52, 2, .iload 7, []), (54, 2, .iload 4, []),
  (56, 3, .invokevirtual 268, [0, 148, 4, 12]), (59, 1, .ladd, []), (60, 2, .lstore 5, []), (62, 3, .iinc 7 1, []), (65, 3, .goto (-23), []), (68, 2, .lload 5, []),
  (70, 1, .lreturn, [])]
set_option maxRecDepth 20000 in
def k_X11_bill : List az_I := [
  (0, 1, .aload_n 0, []), (1, 1, .iload_n 1, []), (2, 3, .invokevirtual 174, [0, 139, 2, 12]), (5, 3, .ifCond .eq 19, []), (8, 1, .iload_n 2, []), (9, 3, .invokestatic 177, [0, 133, 1, 999]),
  (12, 3, .ifCond .eq 12, []), (15, 1, .aload_n 0, []), (16, 2, .iload 4, []), (18, 3, .invokevirtual 140, [0, 138, 2, 12]), (21, 3, .ifCond .ne 5, []), (24, 1, .lconst 0, []),
  (25, 1, .lreturn, []), (26, 1, .aload_n 0, []), (27, 3, .getfield 23, [12, 3]), (30, 1, .iload_n 1, []), (31, 3, .invokevirtual 143, [0, 272, 2, 0]), (34, 3, .checkcast 157, [11]),
  (37, 2, .astore 5, []), (39, 1, .iload_n 3, []), (40, 2, .aload 5, []), (42, 3, .getfield 180, [11, 3]), (45, 3, .if_icmp .lt 10, []), (48, 1, .iload_n 3, []),
  (49, 3, .sipush 3269, []), (52, 3, .if_icmp .le 5, []), (55, 1, .lconst 0, []), (56, 1, .lreturn, []), (57, 2, .aload 5, []), (59, 1, .iload_n 3, []),
  (60, 1, .aload_n 0, []), (61, 3, .getfield 105, [12, 15]), (64, 3, .invokevirtual 200, [0, 90, 3, 11]), (67, 1, .iconst (-1), []), (68, 3, .if_icmp .ne 5, []), (71, 1, .lconst 0, []),
  (72, 1, .lreturn, []), (73, 1, .aload_n 0, []), (74, 2, .iload 4, []), (76, 1, .iload_n 3, []), (77, 3, .invokevirtual 272, [0, 149, 3, 12]), (80, 2, .lstore 6, []),
  (82, 2, .aload 5, []), (84, 1, .iload_n 3, []), (85, 1, .iload_n 2, []), (86, 1, .aload_n 0, []), (87, 3, .getfield 105, [12, 15]), (90, 3, .invokevirtual 190, [0, 86, 4, 11]),
  (93, 1, .aload_n 0, []), (94, 2, .iload 4, []), (96, 1, .iload_n 3, []), (97, 3, .invokevirtual 272, [0, 149, 3, 12]), (100, 2, .lstore 8, []), (102, 2, .aload 5, []),
  (104, 3, .invokevirtual 276, [0, 87, 1, 11]), (107, 2, .lload 8, []), (109, 2, .lload 6, []), (111, 1, .lsub, []), (112, 1, .lreturn, [])]
set_option maxRecDepth 20000 in
def k_X11_feed : List az_I := [
  (0, 1, .aload_n 0, []), (1, 3, .getfield 35, [12, 7]), (4, 3, .getfield 279, [9, 1]), (7, 2, .bipush 20, []), (9, 1, .iadd, []), (10, 3, .sipush 400, []),
  (13, 3, .if_icmp .le 5, []), (16, 1, .iconst (-1), []), (17, 1, .ireturn, []), (18, 1, .aload_n 0, []), (19, 3, .getfield 35, [12, 7]), (22, 1, .iload_n 1, []),
  (23, 3, .invokevirtual 282, [0, 58, 2, 9]), (26, 1, .aload_n 0, []), (27, 3, .getfield 35, [12, 7]), (30, 1, .iload_n 2, []), (31, 3, .invokevirtual 282, [0, 58, 2, 9]), (34, 1, .aload_n 0, []),
  (35, 3, .getfield 35, [12, 7]), (38, 1, .iload_n 3, []), (39, 3, .invokevirtual 282, [0, 58, 2, 9]), (42, 1, .aload_n 0, []), (43, 3, .getfield 35, [12, 7]), (46, 2, .iload 4, []),
  (48, 3, .invokevirtual 282, [0, 58, 2, 9]), (51, 1, .aload_n 0, []), (52, 3, .getfield 35, [12, 7]), (55, 2, .iload 5, []), (57, 3, .invokevirtual 282, [0, 58, 2, 9]), (60, 1, .aload_n 0, []),
  (61, 3, .getfield 35, [12, 7]), (64, 3, .getfield 279, [9, 1]), (67, 1, .ireturn, [])]
set_option maxRecDepth 20000 in
def k_X11_end : List az_I := [
  (0, 1, .iload_n 1, []), (1, 3, .ifCond .lt 14, []), (4, 1, .iload_n 1, []), (5, 1, .aload_n 0, []), (6, 3, .getfield 35, [12, 7]), (9, 3, .getfield 279, [9, 1]),
  (12, 3, .if_icmp .le 5, []), (15, 1, .iconst (-1), []), (16, 1, .ireturn, []), (17, 1, .aload_n 0, []), (18, 3, .getfield 35, [12, 7]), (21, 1, .iload_n 1, []),
  (22, 3, .putfield 279, [9, 1]), (25, 1, .iload_n 1, []), (26, 1, .ireturn, [])]
set_option maxRecDepth 20000 in
def k_X11_tariff : List az_I := [
  (0, 1, .aload_n 0, []), (1, 3, .getfield 95, [12, 8]), (4, 1, .aload_n 0, []), (5, 3, .getfield 53, [12, 14]), (8, 3, .invokevirtual 285, [0, 11, 2, 3]), (11, 1, .istore_n 1, []),
  (12, 1, .aload_n 0, []), (13, 3, .getfield 35, [12, 7]), (16, 1, .iconst 0, []), (17, 3, .putfield 279, [9, 1]), (20, 1, .aload_n 0, []), (21, 1, .aload_n 0, []),
  (22, 3, .getfield 95, [12, 8]), (25, 3, .getfield 289, [3, 4]), (28, 3, .putfield 56, [12, 16]), (31, 1, .aload_n 0, []), (32, 1, .aload_n 0, []), (33, 3, .getfield 95, [12, 8]),
  (36, 3, .getfield 290, [3, 5]), (39, 3, .putfield 60, [12, 17]), (42, 1, .iload_n 1, []), (43, 3, .ifCond .ne 5, []), (46, 1, .iconst (-1), []), (47, 1, .ireturn, []),
  (48, 1, .aload_n 0, []), (49, 3, .getfield 49, [12, 13]), (52, 1, .astore_n 2, []), (53, 1, .aload_n 0, []), (54, 1, .aload_n 0, []), (55, 3, .getfield 53, [12, 14]),
  (58, 3, .putfield 49, [12, 13]), (61, 1, .aload_n 0, []), (62, 1, .aload_n 2, []), (63, 3, .putfield 53, [12, 14]), (66, 1, .aload_n 0, []), (67, 3, .getfield 49, [12, 13]),
  (70, 3, .getfield 291, [10, 6]), (73, 1, .ireturn, [])]
set_option maxRecDepth 20000 in
def k_X11_fault : List az_I := [
  (0, 1, .iload_n 1, []), (1, 27, .lookupswitch 37 #[(0, 27), (1, 32)], []), (28, 1, .aload_n 0, []), (29, 3, .getfield 56, [12, 16]), (32, 1, .ireturn, []), (33, 1, .aload_n 0, []),
  (34, 3, .getfield 60, [12, 17]), (37, 1, .ireturn, []), (38, 1, .iconst (-1), []), (39, 1, .ireturn, [])]
set_option maxRecDepth 20000 in
def k_X11_gives : List az_I := [
  (0, 1, .iload_n 1, []), (1, 3, .ldc_w 294, [0, 1000000]), (4, 3, .invokestatic 112, [0, 134, 2, 999]), (7, 3, .ifCond .eq 23, []), (10, 1, .iload_n 2, []), (11, 3, .ldc_w 294, [0, 1000000]),
  (14, 3, .invokestatic 112, [0, 134, 2, 999]), (17, 3, .ifCond .eq 13, []), (20, 1, .iload_n 3, []), (21, 3, .ldc_w 294, [0, 1000000]), (24, 3, .invokestatic 112, [0, 134, 2, 999]), (27, 3, .ifCond .ne 7, []),
  (30, 3, .ldc_w 295, [0, 2294967296]), (33, 1, .ireturn, []), (34, 2, .iload 4, []), (36, 3, .ldc_w 294, [0, 1000000]), (39, 3, .invokestatic 112, [0, 134, 2, 999]), (42, 3, .ifCond .eq 25, []),
  (45, 2, .iload 5, []), (47, 3, .ldc_w 294, [0, 1000000]), (50, 3, .invokestatic 112, [0, 134, 2, 999]), (53, 3, .ifCond .eq 14, []), (56, 2, .iload 6, []), (58, 3, .ldc_w 294, [0, 1000000]),
  (61, 3, .invokestatic 112, [0, 134, 2, 999]), (64, 3, .ifCond .ne 7, []), (67, 3, .ldc_w 295, [0, 2294967296]), (70, 1, .ireturn, []), (71, 1, .aload_n 0, []), (72, 3, .getfield 39, [12, 10]),
  (75, 1, .iconst 0, []), (76, 1, .iload_n 1, []), (77, 1, .iastore, []), (78, 1, .aload_n 0, []), (79, 3, .getfield 39, [12, 10]), (82, 1, .iconst 1, []),
  (83, 1, .iload_n 2, []), (84, 1, .iastore, []), (85, 1, .aload_n 0, []), (86, 3, .getfield 39, [12, 10]), (89, 1, .iconst 2, []), (90, 1, .iconst 0, []),
  (91, 1, .iastore, []), (92, 1, .aload_n 0, []), (93, 3, .getfield 39, [12, 10]), (96, 1, .iconst 3, []), (97, 1, .iload_n 3, []), (98, 1, .iastore, []),
  (99, 1, .aload_n 0, []), (100, 3, .getfield 39, [12, 10]), (103, 1, .iconst 4, []), (104, 2, .iload 4, []), (106, 1, .iastore, []), (107, 1, .aload_n 0, []),
  (108, 3, .getfield 39, [12, 10]), (111, 1, .iconst 5, []), (112, 2, .iload 5, []), (114, 1, .iastore, []), (115, 1, .aload_n 0, []), (116, 3, .getfield 39, [12, 10]),
  (119, 2, .bipush 6, []), (121, 2, .iload 6, []), (123, 1, .iastore, []), (124, 1, .aload_n 0, []), (125, 3, .getfield 39, [12, 10]), (128, 2, .bipush 7, []),
  (130, 1, .iconst 0, []), (131, 1, .iastore, []), (132, 1, .aload_n 0, []), (133, 3, .getfield 49, [12, 13]), (136, 1, .aload_n 0, []), (137, 3, .getfield 39, [12, 10]),
  (140, 3, .invokevirtual 296, [0, 80, 2, 10]), (143, 1, .ireturn, [])]
set_option maxRecDepth 20000 in
def k_X11_stall : List az_I := [
  (0, 1, .aload_n 0, []), (1, 1, .iload_n 1, []), (2, 3, .invokevirtual 140, [0, 138, 2, 12]), (5, 3, .ifCond .eq 23, []), (8, 1, .iload_n 2, []), (9, 1, .iload_n 3, []),
  (10, 3, .invokestatic 231, [0, 131, 2, 999]), (13, 3, .ifCond .eq 15, []), (16, 1, .aload_n 0, []), (17, 3, .getfield 29, [12, 5]), (20, 3, .invokevirtual 130, [0, 270, 1, 0]), (23, 2, .bipush 10, []),
  (25, 3, .if_icmp .lt 5, []), (28, 1, .iconst (-1), []), (29, 1, .ireturn, []), (30, 1, .aload_n 0, []), (31, 3, .getfield 29, [12, 5]), (34, 3, .new 300, [8]),
  (37, 1, .dup, []), (38, 1, .iload_n 2, []), (39, 1, .iload_n 3, []), (40, 3, .invokespecial 302, [0, 52, 3, 8]), (43, 3, .invokevirtual 136, [0, 274, 2, 0]), (46, 1, .pop, []),
  (47, 1, .aload_n 0, []), (48, 3, .getfield 29, [12, 5]), (51, 3, .invokevirtual 130, [0, 270, 1, 0]), (54, 1, .iconst 1, []), (55, 1, .isub, []), (56, 1, .ireturn, [])]
set_option maxRecDepth 20000 in
def k_X11_place : List az_I := [
  (0, 1, .aload_n 0, []), (1, 1, .iload_n 1, []), (2, 3, .invokevirtual 303, [0, 140, 2, 12]), (5, 3, .ifCond .eq 10, []), (8, 1, .iload_n 2, []), (9, 3, .invokestatic 108, [0, 132, 1, 999]),
  (12, 3, .ifCond .ne 5, []), (15, 1, .iconst 0, []), (16, 1, .ireturn, []), (17, 1, .iload_n 3, []), (18, 1, .iconst (-1), []), (19, 3, .if_icmp .eq 15, []),
  (22, 1, .aload_n 0, []), (23, 1, .iload_n 1, []), (24, 1, .iload_n 2, []), (25, 1, .iload_n 3, []), (26, 3, .invokevirtual 306, [0, 151, 4, 12]), (29, 3, .ifCond .ne 5, []),
  (32, 1, .iconst 0, []), (33, 1, .ireturn, []), (34, 1, .aload_n 0, []), (35, 3, .getfield 29, [12, 5]), (38, 1, .iload_n 1, []), (39, 3, .invokevirtual 143, [0, 272, 2, 0]),
  (42, 3, .checkcast 300, [8]), (45, 1, .iload_n 2, []), (46, 1, .iload_n 3, []), (47, 3, .invokevirtual 309, [0, 54, 3, 8]), (50, 1, .iconst 1, []), (51, 1, .ireturn, [])]
set_option maxRecDepth 20000 in
def k_X11_placeOf : List az_I := [
  (0, 1, .aload_n 0, []), (1, 1, .iload_n 1, []), (2, 3, .invokevirtual 303, [0, 140, 2, 12]), (5, 3, .ifCond .eq 21, []), (8, 1, .aload_n 0, []), (9, 3, .getfield 29, [12, 5]),
  (12, 1, .iload_n 1, []), (13, 3, .invokevirtual 143, [0, 272, 2, 0]), (16, 3, .checkcast 300, [8]), (19, 1, .iload_n 2, []), (20, 3, .invokevirtual 312, [0, 55, 2, 8]), (23, 3, .goto 4, []),
  (26, 1, .iconst (-1), []), (27, 1, .ireturn, [])]
set_option maxRecDepth 20000 in
def k_X11_fees : List az_I := [
  (0, 1, .aload_n 0, []), (1, 1, .iload_n 1, []), (2, 3, .invokevirtual 303, [0, 140, 2, 12]), (5, 3, .ifCond .eq 34, []), (8, 1, .aload_n 0, []), (9, 3, .getfield 29, [12, 5]),
  (12, 1, .iload_n 1, []), (13, 3, .invokevirtual 143, [0, 272, 2, 0]), (16, 3, .checkcast 300, [8]), (19, 1, .iload_n 2, []), (20, 3, .invokevirtual 315, [0, 53, 2, 8]), (23, 3, .ifCond .eq 16, []),
  (26, 1, .iload_n 3, []), (27, 1, .iconst (-1), []), (28, 3, .if_icmp .eq 15, []), (31, 1, .aload_n 0, []), (32, 1, .iload_n 3, []), (33, 3, .invokevirtual 140, [0, 138, 2, 12]),
  (36, 3, .ifCond .ne 7, []), (39, 3, .ldc2_w 318, [18446744072709551616]), (42, 1, .lreturn, []), (43, 1, .aload_n 0, []), (44, 3, .getfield 29, [12, 5]), (47, 1, .iload_n 1, []),
  (48, 3, .invokevirtual 143, [0, 272, 2, 0]), (51, 3, .checkcast 300, [8]), (54, 2, .astore 4, []), (56, 1, .aload_n 0, []), (57, 3, .getfield 77, [12, 6]), (60, 1, .iload_n 2, []),
  (61, 1, .aload_n 0, []), (62, 3, .getfield 105, [12, 15]), (65, 3, .invokevirtual 245, [0, 37, 3, 6]), (68, 1, .lconst 0, []), (69, 2, .lstore 5, []), (71, 1, .iconst 0, []),
  (72, 2, .istore 7, []), (74, 2, .iload 7, []), (76, 2, .bipush 12, []), (78, 3, .if_icmp .ge 72, []), (81, 2, .aload 4, []), (83, 2, .iload 7, []),
  (85, 3, .invokevirtual 312, [0, 55, 2, 8]), (88, 2, .istore 8, []), (90, 2, .iload 8, []), (92, 1, .iconst (-1), []), (93, 3, .if_icmp .eq 51, []), (96, 1, .aload_n 0, []),
  (97, 3, .getfield 77, [12, 6]), (100, 2, .iload 7, []), (102, 3, .invokevirtual 248, [0, 38, 2, 6]), (105, 1, .iload_n 3, []), (106, 1, .iconst (-1), []), (107, 3, .if_icmp .ne 7, []),
  (110, 1, .iconst (-1), []), (111, 3, .goto 15, []), (114, 1, .aload_n 0, []), (115, 1, .iload_n 3, []), (116, 1, .iload_n 2, []), (117, 2, .iload 7, []),
  (119, 1, .aload_n 0, []), (120, 3, .getfield 105, [12, 15]), (123, 3, .invokevirtual 256, [0, 147, 5, 12]), (126, 2, .istore 9, []), (128, 2, .lload 5, []), (130, 1, .aload_n 0, []),
  (131, 2, .iload 8, []), (133, 2, .iload 7, []), (135, 1, .iload_n 1, []), (136, 2, .iload 9, []), (138, 3, .invokevirtual 320, [0, 150, 5, 12]), (141, 1, .ladd, []),
  (142, 2, .lstore 5, []), (144, 3, .iinc 7 1, []), (147, 3, .goto (-73), []), (150, 2, .lload 5, []), (152, 1, .lreturn, [])]
set_option maxRecDepth 20000 in
def k_X11_walk : List az_I := [
  (0, 1, .iload_n 1, []), (1, 3, .invokestatic 120, [0, 130, 1, 999]), (4, 3, .ifCond .eq 24, []), (7, 1, .iload_n 2, []), (8, 3, .invokestatic 108, [0, 132, 1, 999]), (11, 3, .ifCond .eq 17, []),
  (14, 2, .iload 4, []), (16, 3, .invokestatic 108, [0, 132, 1, 999]), (19, 3, .ifCond .eq 9, []), (22, 2, .iload 4, []), (24, 1, .iload_n 2, []), (25, 3, .if_icmp .ge 5, []),
  (28, 1, .iconst (-1), []), (29, 1, .ireturn, []), (30, 1, .aload_n 0, []), (31, 3, .getfield 68, [12, 0]), (34, 1, .iload_n 3, []), (35, 3, .invokevirtual 203, [0, 5, 2, 2]),
  (38, 3, .ifCond .eq 15, []), (41, 1, .aload_n 0, []), (42, 3, .getfield 68, [12, 0]), (45, 2, .iload 5, []), (47, 3, .invokevirtual 203, [0, 5, 2, 2]), (50, 3, .ifCond .ne 5, []),
  (53, 1, .iconst (-1), []), (54, 1, .ireturn, []), (55, 1, .aload_n 0, []), (56, 3, .getfield 77, [12, 6]), (59, 1, .iload_n 1, []), (60, 1, .aload_n 0, []),
  (61, 3, .getfield 105, [12, 15]), (64, 3, .invokevirtual 245, [0, 37, 3, 6]), (67, 1, .aload_n 0, []), (68, 3, .getfield 86, [12, 9]), (71, 2, .iload 5, []), (73, 3, .invokevirtual 324, [0, 27, 2, 5]),
  (76, 2, .iload 4, []), (78, 2, .istore 6, []), (80, 2, .iload 6, []), (82, 1, .iload_n 2, []), (83, 3, .if_icmp .lt 48, []), (86, 1, .aload_n 0, []),
  (87, 3, .getfield 77, [12, 6]), (90, 2, .iload 6, []), (92, 3, .invokevirtual 248, [0, 38, 2, 6]), (95, 1, .aload_n 0, []), (96, 3, .getfield 86, [12, 9]), (99, 3, .invokevirtual 327, [0, 28, 1, 5]),
  (102, 1, .aload_n 0, []), (103, 2, .iload 6, []), (105, 1, .iload_n 3, []), (106, 2, .iload 6, []), (108, 1, .iload_n 2, []), (109, 1, .isub, []),
  (110, 2, .iload 6, []), (112, 2, .iload 4, []), (114, 3, .if_icmp .ne 7, []), (117, 1, .iconst 1, []), (118, 3, .goto 4, []), (121, 1, .iconst 0, []),
  (122, 3, .invokevirtual 330, [0, 152, 5, 12]), (125, 3, .iinc 6 (-1), []), (128, 3, .goto (-48), []), (131, 1, .aload_n 0, []), (132, 3, .getfield 86, [12, 9]), (135, 1, .iload_n 3, []),
  (136, 1, .iload_n 2, []), (137, 2, .iload 4, []), (139, 3, .invokevirtual 334, [0, 33, 4, 5]), (142, 1, .ireturn, [])]
set_option maxRecDepth 20000 in
def k_X11_walked : List az_I := [
  (0, 1, .iload_n 1, []), (1, 1, .iconst (-1), []), (2, 3, .if_icmp .ne 13, []), (5, 1, .aload_n 0, []), (6, 3, .getfield 86, [12, 9]), (9, 3, .invokevirtual 338, [0, 34, 1, 5]),
  (12, 3, .goto 12, []), (15, 1, .aload_n 0, []), (16, 3, .getfield 86, [12, 9]), (19, 1, .iload_n 1, []), (20, 3, .invokevirtual 342, [0, 35, 2, 5]), (23, 1, .i2l, []),
  (24, 1, .lreturn, [])]
set_option maxRecDepth 20000 in
def k_X11_best : List az_I := [
  (0, 1, .aload_n 0, []), (1, 1, .iload_n 1, []), (2, 1, .iload_n 2, []), (3, 3, .invokevirtual 345, [0, 154, 3, 12]), (6, 1, .ireturn, [])]
set_option maxRecDepth 20000 in
def k_X11_serves : List az_I := [
  (0, 1, .aload_n 0, []), (1, 1, .iload_n 1, []), (2, 1, .iload_n 2, []), (3, 3, .invokevirtual 345, [0, 154, 3, 12]), (6, 1, .istore_n 3, []), (7, 1, .aload_n 0, []),
  (8, 3, .getfield 68, [12, 0]), (11, 1, .iload_n 3, []), (12, 3, .invokevirtual 203, [0, 5, 2, 2]), (15, 3, .ifCond .eq 12, []), (18, 1, .aload_n 0, []), (19, 3, .getfield 102, [12, 12]),
  (22, 1, .iload_n 3, []), (23, 1, .iaload, []), (24, 3, .goto 4, []), (27, 1, .iconst (-1), []), (28, 1, .ireturn, [])]
set_option maxRecDepth 20000 in
def k_X11_about : List az_I := [
  (0, 1, .iload_n 1, []), (1, 59, .tableswitch 141 0 10 #[59, 64, 72, 80, 88, 96, 104, 112, 120, 128, 136], []), (60, 1, .aload_n 0, []), (61, 3, .getfield 105, [12, 15]), (64, 1, .ireturn, []), (65, 1, .aload_n 0, []),
  (66, 3, .getfield 68, [12, 0]), (69, 3, .getfield 348, [2, 0]), (72, 1, .ireturn, []), (73, 1, .aload_n 0, []), (74, 3, .getfield 68, [12, 0]), (77, 3, .getfield 351, [2, 1]),
  (80, 1, .ireturn, []), (81, 1, .aload_n 0, []), (82, 3, .getfield 19, [12, 2]), (85, 3, .invokevirtual 130, [0, 270, 1, 0]), (88, 1, .ireturn, []), (89, 1, .aload_n 0, []),
  (90, 3, .getfield 23, [12, 3]), (93, 3, .invokevirtual 130, [0, 270, 1, 0]), (96, 1, .ireturn, []), (97, 1, .aload_n 0, []), (98, 3, .getfield 26, [12, 4]), (101, 3, .invokevirtual 130, [0, 270, 1, 0]),
  (104, 1, .ireturn, []), (105, 1, .aload_n 0, []), (106, 3, .getfield 10, [12, 1]), (109, 3, .getfield 354, [7, 3]), (112, 1, .ireturn, []), (113, 1, .aload_n 0, []),
  (114, 3, .getfield 29, [12, 5]), (117, 3, .invokevirtual 130, [0, 270, 1, 0]), (120, 1, .ireturn, []), (121, 1, .aload_n 0, []), (122, 3, .getfield 49, [12, 13]), (125, 3, .getfield 291, [10, 6]),
  (128, 1, .ireturn, []), (129, 1, .aload_n 0, []), (130, 3, .getfield 35, [12, 7]), (133, 3, .getfield 279, [9, 1]), (136, 1, .ireturn, []), (137, 1, .aload_n 0, []),
  (138, 3, .invokevirtual 357, [0, 144, 1, 12]), (141, 1, .ireturn, []), (142, 1, .iconst (-1), []), (143, 1, .ireturn, [])]
set_option maxRecDepth 20000 in
def k_X11_isDay : List az_I := [
  (0, 1, .iload_n 0, []), (1, 3, .ifCond .lt 14, []), (4, 1, .iload_n 0, []), (5, 3, .sipush 3599, []), (8, 3, .if_icmp .gt 7, []), (11, 1, .iconst 1, []),
  (12, 3, .goto 4, []), (15, 1, .iconst 0, []), (16, 1, .ireturn, [])]
set_option maxRecDepth 20000 in
def k_X11_isSpan : List az_I := [
  (0, 1, .iload_n 0, []), (1, 3, .invokestatic 120, [0, 130, 1, 999]), (4, 3, .ifCond .eq 19, []), (7, 1, .iload_n 1, []), (8, 3, .invokestatic 120, [0, 130, 1, 999]), (11, 3, .ifCond .eq 12, []),
  (14, 1, .iload_n 0, []), (15, 1, .iload_n 1, []), (16, 3, .if_icmp .gt 7, []), (19, 1, .iconst 1, []), (20, 3, .goto 4, []), (23, 1, .iconst 0, []),
  (24, 1, .ireturn, [])]
set_option maxRecDepth 20000 in
def k_X11_isHour : List az_I := [
  (0, 1, .iload_n 0, []), (1, 3, .ifCond .lt 13, []), (4, 1, .iload_n 0, []), (5, 2, .bipush 12, []), (7, 3, .if_icmp .ge 7, []), (10, 1, .iconst 1, []),
  (11, 3, .goto 4, []), (14, 1, .iconst 0, []), (15, 1, .ireturn, [])]
set_option maxRecDepth 20000 in
def k_X11_isHeight : List az_I := [
  (0, 1, .iload_n 0, []), (1, 3, .ifCond .lt 13, []), (4, 1, .iload_n 0, []), (5, 2, .bipush 60, []), (7, 3, .if_icmp .gt 7, []), (10, 1, .iconst 1, []),
  (11, 3, .goto 4, []), (14, 1, .iconst 0, []), (15, 1, .ireturn, [])]
set_option maxRecDepth 20000 in
def k_X11_isWithin : List az_I := [
  (0, 1, .iload_n 0, []), (1, 1, .iload_n 1, []), (2, 1, .ineg, []), (3, 3, .if_icmp .lt 12, []), (6, 1, .iload_n 0, []), (7, 1, .iload_n 1, []),
  (8, 3, .if_icmp .gt 7, []), (11, 1, .iconst 1, []), (12, 3, .goto 4, []), (15, 1, .iconst 0, []), (16, 1, .ireturn, [])]
set_option maxRecDepth 20000 in
def k_X11_isPairOfTwelve : List az_I := [
  (0, 1, .iload_n 0, []), (1, 3, .ifCond .lt 25, []), (4, 1, .iload_n 0, []), (5, 2, .bipush 16, []), (7, 1, .idiv, []), (8, 2, .bipush 12, []),
  (10, 3, .if_icmp .ge 16, []), (13, 1, .iload_n 0, []), (14, 2, .bipush 16, []), (16, 1, .irem, []), (17, 2, .bipush 12, []), (19, 3, .if_icmp .ge 7, []),
  (22, 1, .iconst 1, []), (23, 3, .goto 4, []), (26, 1, .iconst 0, []), (27, 1, .ireturn, [])]
set_option maxRecDepth 20000 in
def k_X11_monthOf : List az_I := [
  (0, 1, .iload_n 0, []), (1, 3, .sipush 360, []), (4, 1, .irem, []), (5, 2, .bipush 30, []), (7, 1, .idiv, []), (8, 1, .ireturn, [])]
set_option maxRecDepth 20000 in
def k_X11_cellsAside : List az_I := [
  (0, 2, .bipush 50, []), (2, 1, .iload_n 0, []), (3, 1, .iload_n 1, []), (4, 1, .imul, []), (5, 1, .iadd, []), (6, 2, .bipush 100, []),
  (8, 3, .invokestatic 360, [0, 253, 2, 999]), (11, 1, .ireturn, [])]
set_option maxRecDepth 20000 in
def k_X11_isPerson : List az_I := [
  (0, 1, .iload_n 1, []), (1, 3, .ifCond .lt 18, []), (4, 1, .iload_n 1, []), (5, 1, .aload_n 0, []), (6, 3, .getfield 19, [12, 2]), (9, 3, .invokevirtual 130, [0, 270, 1, 0]),
  (12, 3, .if_icmp .ge 7, []), (15, 1, .iconst 1, []), (16, 3, .goto 4, []), (19, 1, .iconst 0, []), (20, 1, .ireturn, [])]
set_option maxRecDepth 20000 in
def k_X11_isThing : List az_I := [
  (0, 1, .iload_n 1, []), (1, 3, .ifCond .lt 18, []), (4, 1, .iload_n 1, []), (5, 1, .aload_n 0, []), (6, 3, .getfield 23, [12, 3]), (9, 3, .invokevirtual 130, [0, 270, 1, 0]),
  (12, 3, .if_icmp .ge 7, []), (15, 1, .iconst 1, []), (16, 3, .goto 4, []), (19, 1, .iconst 0, []), (20, 1, .ireturn, [])]
set_option maxRecDepth 20000 in
def k_X11_isStall : List az_I := [
  (0, 1, .iload_n 1, []), (1, 3, .ifCond .lt 18, []), (4, 1, .iload_n 1, []), (5, 1, .aload_n 0, []), (6, 3, .getfield 29, [12, 5]), (9, 3, .invokevirtual 130, [0, 270, 1, 0]),
  (12, 3, .if_icmp .ge 7, []), (15, 1, .iconst 1, []), (16, 3, .goto 4, []), (19, 1, .iconst 0, []), (20, 1, .ireturn, [])]
set_option maxRecDepth 20000 in
def k_X11_mayStand : List az_I := [
  (0, 1, .aload_n 0, []), (1, 3, .getfield 68, [12, 0]), (4, 1, .iload_n 1, []), (5, 3, .invokevirtual 203, [0, 5, 2, 2]), (8, 3, .ifCond .eq 30, []), (11, 1, .aload_n 0, []),
  (12, 1, .iload_n 2, []), (13, 3, .invokevirtual 140, [0, 138, 2, 12]), (16, 3, .ifCond .eq 22, []), (19, 1, .iload_n 3, []), (20, 3, .invokestatic 177, [0, 133, 1, 999]), (23, 3, .ifCond .eq 15, []),
  (26, 1, .aload_n 0, []), (27, 3, .getfield 23, [12, 3]), (30, 3, .invokevirtual 130, [0, 270, 1, 0]), (33, 2, .bipush 24, []), (35, 3, .if_icmp .lt 5, []), (38, 1, .iconst 0, []),
  (39, 1, .ireturn, []), (40, 1, .iconst 0, []), (41, 2, .istore 4, []), (43, 2, .iload 4, []), (45, 1, .aload_n 0, []), (46, 3, .getfield 29, [12, 5]),
  (49, 3, .invokevirtual 130, [0, 270, 1, 0]), (52, 3, .if_icmp .ge 46, []), (55, 1, .aload_n 0, []), (56, 3, .getfield 29, [12, 5]), (59, 2, .iload 4, []), (61, 3, .invokevirtual 143, [0, 272, 2, 0]),
  (64, 3, .checkcast 300, [8]), (67, 2, .astore 5, []), (69, 2, .aload 5, []), (71, 3, .getfield 365, [8, 1]), (74, 1, .aload_n 0, []), (75, 3, .getfield 105, [12, 15]),
  (78, 3, .if_icmp .lt 14, []), (81, 2, .aload 5, []), (83, 1, .iload_n 1, []), (84, 3, .invokevirtual 368, [0, 56, 2, 8]), (87, 3, .ifCond .eq 5, []), (90, 1, .iconst 0, []),
  (91, 1, .ireturn, []), (92, 3, .iinc 4 1, []), (95, 3, .goto (-52), []), (98, 1, .aload_n 0, []), (99, 1, .iload_n 1, []), (100, 3, .invokevirtual 371, [0, 142, 2, 12]),
  (103, 3, .ifCond .ne 7, []), (106, 1, .iconst 1, []), (107, 3, .goto 4, []), (110, 1, .iconst 0, []), (111, 1, .ireturn, [])]
set_option maxRecDepth 20000 in
def k_X11_isBuiltOn : List az_I := [
  (0, 1, .iconst 0, []), (1, 1, .istore_n 2, []), (2, 1, .iload_n 2, []), (3, 1, .aload_n 0, []), (4, 3, .getfield 23, [12, 3]), (7, 3, .invokevirtual 130, [0, 270, 1, 0]),
  (10, 3, .if_icmp .ge 38, []), (13, 1, .aload_n 0, []), (14, 3, .getfield 23, [12, 3]), (17, 1, .iload_n 2, []), (18, 3, .invokevirtual 143, [0, 272, 2, 0]), (21, 3, .checkcast 157, [11]),
  (24, 1, .astore_n 3, []), (25, 1, .aload_n 3, []), (26, 3, .getfield 219, [11, 1]), (29, 1, .iload_n 1, []), (30, 3, .if_icmp .ne 12, []), (33, 1, .aload_n 3, []),
  (34, 3, .invokevirtual 183, [0, 89, 1, 11]), (37, 3, .ifCond .ne 5, []), (40, 1, .iconst 1, []), (41, 1, .ireturn, []), (42, 3, .iinc 2 1, []), (45, 3, .goto (-43), []),
  (48, 1, .iconst 0, []), (49, 1, .ireturn, [])]
set_option maxRecDepth 20000 in
def k_X11_addThing : List az_I := [
  (0, 1, .aload_n 1, []), (1, 1, .aload_n 0, []), (2, 3, .getfield 105, [12, 15]), (5, 1, .iload_n 2, []), (6, 1, .aload_n 0, []), (7, 3, .getfield 105, [12, 15]),
  (10, 3, .invokevirtual 190, [0, 86, 4, 11]), (13, 1, .aload_n 0, []), (14, 3, .getfield 23, [12, 3]), (17, 1, .aload_n 1, []), (18, 3, .invokevirtual 136, [0, 274, 2, 0]), (21, 1, .pop, []),
  (22, 1, .aload_n 0, []), (23, 3, .getfield 23, [12, 3]), (26, 3, .invokevirtual 130, [0, 270, 1, 0]), (29, 1, .iconst 1, []), (30, 1, .isub, []), (31, 1, .ireturn, [])]
set_option maxRecDepth 20000 in
def k_X11_standingNow : List az_I := [
  (0, 1, .iconst 0, []), (1, 1, .istore_n 1, []), (2, 1, .iconst 0, []), (3, 1, .istore_n 2, []), (4, 1, .iload_n 2, []), (5, 1, .aload_n 0, []),
  (6, 3, .getfield 23, [12, 3]), (9, 3, .invokevirtual 130, [0, 270, 1, 0]), (12, 3, .if_icmp .ge 38, []), (15, 1, .aload_n 0, []), (16, 3, .getfield 23, [12, 3]), (19, 1, .iload_n 2, []),
  (20, 3, .invokevirtual 143, [0, 272, 2, 0]), (23, 3, .checkcast 157, [11]), (26, 1, .aload_n 0, []), (27, 3, .getfield 105, [12, 15]), (30, 1, .aload_n 0, []), (31, 3, .getfield 105, [12, 15]),
  (34, 3, .invokevirtual 200, [0, 90, 3, 11]), (37, 1, .iconst (-1), []), (38, 3, .if_icmp .eq 6, []), (41, 3, .iinc 1 1, []), (44, 3, .iinc 2 1, []), (47, 3, .goto (-43), []),
  (50, 1, .iload_n 1, []), (51, 1, .ireturn, [])]
set_option maxRecDepth 20000 in
def k_X11_nearestHeight : List az_I := [
  (0, 1, .aload_n 0, []), (1, 3, .getfield 10, [12, 1]), (4, 1, .aload_n 0, []), (5, 3, .getfield 105, [12, 15]), (8, 1, .iload_n 2, []), (9, 3, .invokevirtual 374, [0, 48, 3, 7]),
  (12, 1, .aload_n 1, []), (13, 3, .getfield 168, [11, 5]), (16, 1, .iadd, []), (17, 2, .istore 5, []), (19, 1, .aload_n 0, []), (20, 3, .getfield 10, [12, 1]),
  (23, 1, .aload_n 0, []), (24, 3, .getfield 105, [12, 15]), (27, 1, .iload_n 2, []), (28, 3, .invokevirtual 377, [0, 49, 3, 7]), (31, 1, .aload_n 1, []), (32, 3, .getfield 171, [11, 6]),
  (35, 1, .iadd, []), (36, 2, .istore 6, []), (38, 1, .aload_n 0, []), (39, 3, .getfield 68, [12, 0]), (42, 1, .iload_n 3, []), (43, 3, .invokevirtual 380, [0, 6, 2, 2]),
  (46, 1, .aload_n 0, []), (47, 3, .getfield 68, [12, 0]), (50, 1, .aload_n 1, []), (51, 3, .getfield 219, [11, 1]), (54, 3, .invokevirtual 380, [0, 6, 2, 2]), (57, 1, .isub, []),
  (58, 2, .istore 7, []), (60, 1, .aload_n 0, []), (61, 3, .getfield 68, [12, 0]), (64, 1, .iload_n 3, []), (65, 3, .invokevirtual 383, [0, 7, 2, 2]), (68, 1, .aload_n 0, []),
  (69, 3, .getfield 68, [12, 0]), (72, 1, .aload_n 1, []), (73, 3, .getfield 219, [11, 1]), (76, 3, .invokevirtual 383, [0, 7, 2, 2]), (79, 1, .isub, []), (80, 2, .istore 8, []),
  (82, 1, .iconst (-1), []), (83, 2, .istore 9, []), (85, 1, .iconst 1, []), (86, 2, .istore 10, []), (88, 2, .iload 10, []), (90, 2, .bipush 60, []),
  (92, 3, .if_icmp .gt 74, []), (95, 2, .iload 10, []), (97, 2, .iload 5, []), (99, 3, .invokestatic 386, [0, 137, 2, 999]), (102, 2, .iload 7, []), (104, 3, .if_icmp .ne 19, []),
  (107, 2, .iload 10, []), (109, 2, .iload 6, []), (111, 3, .invokestatic 386, [0, 137, 2, 999]), (114, 2, .iload 8, []), (116, 3, .if_icmp .ne 7, []), (119, 1, .iconst 1, []),
  (120, 3, .goto 4, []), (123, 1, .iconst 0, []), (124, 2, .istore 11, []), (126, 2, .iload 11, []), (128, 3, .ifCond .eq 32, []), (131, 2, .iload 9, []),
  (133, 1, .iconst (-1), []), (134, 3, .if_icmp .eq 22, []), (137, 2, .iload 10, []), (139, 2, .iload 4, []), (141, 1, .isub, []), (142, 3, .invokestatic 389, [0, 254, 1, 999]),
  (145, 2, .iload 9, []), (147, 2, .iload 4, []), (149, 1, .isub, []), (150, 3, .invokestatic 389, [0, 254, 1, 999]), (153, 3, .if_icmp .ge 7, []), (156, 2, .iload 10, []),
  (158, 2, .istore 9, []), (160, 3, .iinc 10 1, []), (163, 3, .goto (-75), []), (166, 2, .iload 9, []), (168, 1, .ireturn, [])]
set_option maxRecDepth 20000 in
def k_X11_findHolders : List az_I := [
  (0, 1, .iconst 0, []), (1, 2, .istore 4, []), (3, 2, .iload 4, []), (5, 1, .aload_n 0, []), (6, 3, .getfield 23, [12, 3]), (9, 3, .invokevirtual 130, [0, 270, 1, 0]),
  (12, 3, .if_icmp .ge 41, []), (15, 2, .iload 4, []), (17, 1, .aload_n 0, []), (18, 3, .getfield 43, [12, 11]), (21, 1, .arraylength, []), (22, 3, .if_icmp .ge 31, []),
  (25, 1, .aload_n 0, []), (26, 3, .getfield 43, [12, 11]), (29, 2, .iload 4, []), (31, 1, .aload_n 0, []), (32, 3, .getfield 23, [12, 3]), (35, 2, .iload 4, []),
  (37, 3, .invokevirtual 143, [0, 272, 2, 0]), (40, 3, .checkcast 157, [11]), (43, 3, .getfield 222, [11, 2]), (46, 1, .iastore, []), (47, 3, .iinc 4 1, []), (50, 3, .goto (-47), []),
  (53, 1, .iconst 0, []), (54, 2, .istore 4, []), (56, 2, .iload 4, []), (58, 1, .aload_n 0, []), (59, 3, .getfield 26, [12, 4]), (62, 3, .invokevirtual 130, [0, 270, 1, 0]),
  (65, 3, .if_icmp .ge 113, []), (68, 1, .aload_n 0, []), (69, 3, .getfield 26, [12, 4]), (72, 2, .iload 4, []), (74, 3, .invokevirtual 143, [0, 272, 2, 0]), (77, 3, .checkcast 234, [1]),
  (80, 2, .astore 5, []), (82, 2, .aload 5, []), (84, 3, .getfield 392, [1, 3]), (87, 2, .istore 6, []), (89, 2, .iload 6, []), (91, 3, .ifCond .lt 32, []),
  (94, 2, .iload 6, []), (96, 1, .aload_n 0, []), (97, 3, .getfield 43, [12, 11]), (100, 1, .arraylength, []), (101, 3, .if_icmp .ge 22, []), (104, 1, .aload_n 0, []),
  (105, 3, .getfield 43, [12, 11]), (108, 2, .iload 6, []), (110, 1, .iaload, []), (111, 2, .aload 5, []), (113, 3, .getfield 395, [1, 0]), (116, 3, .if_icmp .ne 7, []),
  (119, 1, .iconst 1, []), (120, 3, .goto 4, []), (123, 1, .iconst 0, []), (124, 2, .istore 7, []), (126, 2, .iload 7, []), (128, 3, .ifCond .eq 44, []),
  (131, 2, .aload 5, []), (133, 3, .getfield 398, [1, 5]), (136, 1, .iload_n 3, []), (137, 3, .if_icmp .gt 35, []), (140, 2, .aload 5, []), (142, 1, .iload_n 1, []),
  (143, 1, .iload_n 2, []), (144, 3, .invokevirtual 401, [0, 2, 3, 1]), (147, 3, .ifCond .eq 25, []), (150, 2, .aload 5, []), (152, 1, .iload_n 1, []), (153, 1, .iload_n 3, []),
  (154, 3, .invokevirtual 404, [0, 3, 3, 1]), (157, 3, .ifCond .eq 15, []), (160, 1, .aload_n 0, []), (161, 3, .getfield 43, [12, 11]), (164, 2, .iload 6, []), (166, 2, .aload 5, []),
  (168, 3, .getfield 407, [1, 2]), (171, 1, .iastore, []), (172, 3, .iinc 4 1, []), (175, 3, .goto (-119), []), (178, 1, .return_, [])]
set_option maxRecDepth 20000 in
def k_X11_heldBy : List az_I := [
  (0, 1, .aload_n 0, []), (1, 1, .iload_n 2, []), (2, 1, .iload_n 3, []), (3, 2, .iload 4, []), (5, 3, .invokevirtual 242, [0, 146, 4, 12]), (8, 1, .iconst 0, []),
  (9, 2, .istore 5, []), (11, 1, .iconst 0, []), (12, 2, .istore 6, []), (14, 2, .iload 6, []), (16, 1, .aload_n 0, []), (17, 3, .getfield 23, [12, 3]),
  (20, 3, .invokevirtual 130, [0, 270, 1, 0]), (23, 3, .if_icmp .ge 39, []), (26, 2, .iload 6, []), (28, 1, .aload_n 0, []), (29, 3, .getfield 43, [12, 11]), (32, 1, .arraylength, []),
  (33, 3, .if_icmp .ge 29, []), (36, 1, .aload_n 0, []), (37, 3, .getfield 43, [12, 11]), (40, 2, .iload 6, []), (42, 1, .iaload, []), (43, 1, .iload_n 1, []),
  (44, 3, .if_icmp .ne 12, []), (47, 2, .iload 5, []), (49, 1, .iconst 1, []), (50, 2, .iload 6, []), (52, 1, .ishl, []), (53, 1, .ior, []),
  (54, 2, .istore 5, []), (56, 3, .iinc 6 1, []), (59, 3, .goto (-45), []), (62, 2, .iload 5, []), (64, 1, .ireturn, [])]
set_option maxRecDepth 20000 in
def k_X11_partsOnDay : List az_I := [
  (0, 1, .aload_n 0, []), (1, 3, .getfield 77, [12, 6]), (4, 1, .iload_n 2, []), (5, 1, .iload_n 3, []), (6, 3, .invokevirtual 245, [0, 37, 3, 6]), (9, 1, .lconst 0, []),
  (10, 2, .lstore 4, []), (12, 1, .iconst 0, []), (13, 2, .istore 6, []), (15, 2, .iload 6, []), (17, 2, .bipush 12, []), (19, 3, .if_icmp .ge 48, []),
  (22, 1, .aload_n 0, []), (23, 1, .iload_n 1, []), (24, 1, .iload_n 2, []), (25, 2, .iload 6, []), (27, 1, .iload_n 3, []), (28, 3, .invokevirtual 256, [0, 147, 5, 12]),
  (31, 2, .istore 7, []), (33, 2, .iload 7, []), (35, 3, .ifCond .eq 26, []), (38, 1, .aload_n 0, []), (39, 3, .getfield 77, [12, 6]), (42, 2, .iload 6, []),
  (44, 3, .invokevirtual 248, [0, 38, 2, 6]), (47, 2, .lload 4, []), (49, 1, .aload_n 0, []), (50, 3, .getfield 77, [12, 6]), (53, 2, .iload 7, []), (55, 3, .invokevirtual 410, [0, 44, 2, 6]),
  (58, 1, .ladd, []), (59, 2, .lstore 4, []), (61, 3, .iinc 6 1, []), (64, 3, .goto (-49), []), (67, 2, .lload 4, []), (69, 1, .lreturn, [])]
set_option maxRecDepth 20000 in
def k_X11_partsOverYear : List az_I := [
  (0, 1, .lconst 0, []), (1, 1, .lstore_n 3, []), (2, 1, .iconst 0, []), (3, 2, .istore 5, []), (5, 2, .iload 5, []), (7, 2, .bipush 12, []),
  (9, 3, .if_icmp .ge 28, []), (12, 1, .lload_n 3, []), (13, 1, .aload_n 0, []), (14, 1, .iload_n 1, []), (15, 1, .iload_n 2, []), (16, 2, .bipush 30, []),
  (18, 2, .iload 5, []), (20, 1, .imul, []), (21, 1, .iadd, []), (22, 1, .aload_n 0, []), (23, 3, .getfield 105, [12, 15]), (26, 3, .invokevirtual 268, [0, 148, 4, 12]),
  (29, 1, .ladd, []), (30, 1, .lstore_n 3, []), (31, 3, .iinc 5 1, []), (34, 3, .goto (-29), []), (37, 1, .lload_n 3, []), (38, 3, .ldc2_w 414, [30]),
  (41, 1, .lmul, []), (42, 1, .lreturn, [])]
set_option maxRecDepth 20000 in
def k_X11_chargeOf : List az_I := [
  (0, 1, .aload_n 0, []), (1, 3, .getfield 77, [12, 6]), (4, 1, .iload_n 1, []), (5, 3, .invokevirtual 252, [0, 42, 2, 6]), (8, 2, .istore 5, []), (10, 1, .aload_n 0, []),
  (11, 3, .getfield 39, [12, 10]), (14, 1, .iconst 0, []), (15, 1, .iload_n 2, []), (16, 1, .iastore, []), (17, 1, .aload_n 0, []), (18, 3, .getfield 39, [12, 10]),
  (21, 1, .iconst 1, []), (22, 1, .aload_n 0, []), (23, 3, .getfield 77, [12, 6]), (26, 3, .getfield 416, [6, 6]), (29, 3, .invokestatic 419, [0, 136, 1, 999]), (32, 1, .iastore, []),
  (33, 1, .aload_n 0, []), (34, 3, .getfield 39, [12, 10]), (37, 1, .iconst 2, []), (38, 1, .aload_n 0, []), (39, 3, .getfield 77, [12, 6]), (42, 3, .getfield 416, [6, 6]),
  (45, 1, .iastore, []), (46, 1, .aload_n 0, []), (47, 3, .getfield 39, [12, 10]), (50, 1, .iconst 4, []), (51, 2, .iload 5, []), (53, 3, .invokestatic 422, [0, 252, 1, 999]),
  (56, 1, .iastore, []), (57, 1, .aload_n 0, []), (58, 3, .getfield 39, [12, 10]), (61, 2, .bipush 7, []), (63, 1, .iload_n 3, []), (64, 1, .iastore, []),
  (65, 1, .lconst 0, []), (66, 2, .lstore 6, []), (68, 1, .iconst 0, []), (69, 2, .istore 8, []), (71, 2, .iload 8, []), (73, 1, .aload_n 0, []),
  (74, 3, .getfield 23, [12, 3]), (77, 3, .invokevirtual 130, [0, 270, 1, 0]), (80, 3, .if_icmp .ge 93, []), (83, 2, .iload 5, []), (85, 3, .ifCond .eq 88, []), (88, 2, .iload 5, []),
  (90, 2, .iload 4, []), (92, 1, .iand, []), (93, 1, .iconst 1, []), (94, 2, .iload 8, []), (96, 1, .ishl, []), (97, 1, .iand, []),
  (98, 3, .ifCond .eq 69, []), (101, 1, .aload_n 0, []), (102, 3, .getfield 39, [12, 10]), (105, 1, .iconst 3, []), (106, 1, .aload_n 0, []), (107, 3, .getfield 77, [12, 6]),
  (110, 2, .iload 8, []), (112, 3, .invokevirtual 427, [0, 40, 2, 6]), (115, 1, .iastore, []), (116, 1, .aload_n 0, []), (117, 3, .getfield 39, [12, 10]), (120, 1, .iconst 5, []),
  (121, 1, .aload_n 0, []), (122, 3, .getfield 23, [12, 3]), (125, 2, .iload 8, []), (127, 3, .invokevirtual 143, [0, 272, 2, 0]), (130, 3, .checkcast 157, [11]), (133, 3, .getfield 216, [11, 0]),
  (136, 1, .iastore, []), (137, 1, .aload_n 0, []), (138, 3, .getfield 39, [12, 10]), (141, 2, .bipush 6, []), (143, 2, .iload 8, []), (145, 1, .iastore, []),
  (146, 2, .lload 6, []), (148, 1, .iconst 0, []), (149, 1, .aload_n 0, []), (150, 3, .getfield 49, [12, 13]), (153, 1, .aload_n 0, []), (154, 3, .getfield 39, [12, 10]),
  (157, 3, .invokevirtual 296, [0, 80, 2, 10]), (160, 3, .invokestatic 430, [0, 255, 2, 999]), (163, 1, .i2l, []), (164, 1, .ladd, []), (165, 2, .lstore 6, []), (167, 3, .iinc 8 1, []),
  (170, 3, .goto (-99), []), (173, 2, .lload 6, []), (175, 1, .lreturn, [])]
set_option maxRecDepth 20000 in
def k_X11_mayTake : List az_I := [
  (0, 1, .aload_n 0, []), (1, 3, .getfield 68, [12, 0]), (4, 1, .iload_n 3, []), (5, 3, .invokevirtual 203, [0, 5, 2, 2]), (8, 3, .ifCond .eq 11, []), (11, 1, .aload_n 0, []),
  (12, 1, .iload_n 1, []), (13, 3, .invokevirtual 303, [0, 140, 2, 12]), (16, 3, .ifCond .ne 5, []), (19, 1, .iconst 0, []), (20, 1, .ireturn, []), (21, 1, .aload_n 0, []),
  (22, 3, .getfield 29, [12, 5]), (25, 1, .iload_n 1, []), (26, 3, .invokevirtual 143, [0, 272, 2, 0]), (29, 3, .checkcast 300, [8]), (32, 2, .astore 4, []), (34, 2, .aload 4, []),
  (36, 3, .getfield 365, [8, 1]), (39, 1, .aload_n 0, []), (40, 3, .getfield 105, [12, 15]), (43, 3, .if_icmp .lt 13, []), (46, 1, .aload_n 0, []), (47, 1, .iload_n 3, []),
  (48, 3, .invokevirtual 371, [0, 142, 2, 12]), (51, 3, .ifCond .eq 5, []), (54, 1, .iconst 0, []), (55, 1, .ireturn, []), (56, 1, .iconst 0, []), (57, 2, .istore 5, []),
  (59, 2, .iload 5, []), (61, 1, .aload_n 0, []), (62, 3, .getfield 29, [12, 5]), (65, 3, .invokevirtual 130, [0, 270, 1, 0]), (68, 3, .if_icmp .ge 67, []), (71, 1, .aload_n 0, []),
  (72, 3, .getfield 29, [12, 5]), (75, 2, .iload 5, []), (77, 3, .invokevirtual 143, [0, 272, 2, 0]), (80, 3, .checkcast 300, [8]), (83, 2, .astore 6, []), (85, 2, .iload 5, []),
  (87, 1, .iload_n 1, []), (88, 3, .if_icmp .eq 41, []), (91, 2, .aload 6, []), (93, 1, .iload_n 2, []), (94, 3, .invokevirtual 312, [0, 55, 2, 8]), (97, 1, .iload_n 3, []),
  (98, 3, .if_icmp .ne 31, []), (101, 2, .aload 6, []), (103, 3, .getfield 433, [8, 0]), (106, 2, .aload 4, []), (108, 3, .getfield 365, [8, 1]), (111, 3, .if_icmp .gt 18, []),
  (114, 2, .aload 4, []), (116, 3, .getfield 433, [8, 0]), (119, 2, .aload 6, []), (121, 3, .getfield 365, [8, 1]), (124, 3, .if_icmp .gt 5, []), (127, 1, .iconst 0, []),
  (128, 1, .ireturn, []), (129, 3, .iinc 5 1, []), (132, 3, .goto (-73), []), (135, 1, .iconst 1, []), (136, 1, .ireturn, [])]
set_option maxRecDepth 20000 in
def k_X11_leadThroughHour : List az_I := [
  (0, 1, .iconst 0, []), (1, 2, .istore 5, []), (3, 2, .iload 5, []), (5, 1, .aload_n 0, []), (6, 3, .getfield 68, [12, 0]), (9, 3, .getfield 99, [2, 2]),
  (12, 3, .if_icmp .ge 108, []), (15, 1, .aload_n 0, []), (16, 3, .getfield 68, [12, 0]), (19, 1, .iload_n 2, []), (20, 2, .iload 5, []), (22, 3, .invokevirtual 434, [0, 9, 3, 2]),
  (25, 1, .iload_n 3, []), (26, 3, .if_icmp .gt 88, []), (29, 1, .aload_n 0, []), (30, 2, .iload 5, []), (32, 1, .iload_n 1, []), (33, 3, .invokevirtual 437, [0, 153, 3, 12]),
  (36, 3, .ifCond .eq 78, []), (39, 2, .iload 4, []), (41, 3, .ifCond .eq 8, []), (44, 2, .iload 5, []), (46, 3, .goto 12, []), (49, 1, .aload_n 0, []),
  (50, 3, .getfield 86, [12, 9]), (53, 2, .iload 5, []), (55, 3, .invokevirtual 440, [0, 30, 2, 5]), (58, 2, .istore 6, []), (60, 1, .aload_n 0, []), (61, 3, .getfield 86, [12, 9]),
  (64, 2, .iload 6, []), (66, 3, .invokevirtual 443, [0, 29, 2, 5]), (69, 3, .ifCond .eq 45, []), (72, 1, .aload_n 0, []), (73, 3, .getfield 77, [12, 6]), (76, 2, .iload 5, []),
  (78, 3, .invokevirtual 252, [0, 42, 2, 6]), (81, 3, .ifCond .ne 7, []), (84, 1, .iconst 1, []), (85, 3, .goto 4, []), (88, 1, .iconst 0, []), (89, 2, .istore 7, []),
  (91, 1, .aload_n 0, []), (92, 3, .getfield 86, [12, 9]), (95, 1, .iload_n 1, []), (96, 2, .iload 5, []), (98, 2, .iload 6, []), (100, 2, .iload 7, []),
  (102, 1, .aload_n 0, []), (103, 2, .iload 5, []), (105, 1, .iload_n 1, []), (106, 1, .iconst (-1), []), (107, 1, .iconst (-1), []), (108, 3, .invokevirtual 320, [0, 150, 5, 12]),
  (111, 3, .invokevirtual 446, [0, 32, 6, 5]), (114, 3, .iinc 5 1, []), (117, 3, .goto (-114), []), (120, 1, .return_, [])]
set_option maxRecDepth 20000 in
def k_X11_mayWalk : List az_I := [
  (0, 1, .iconst 0, []), (1, 1, .istore_n 3, []), (2, 1, .iload_n 3, []), (3, 1, .aload_n 0, []), (4, 3, .getfield 29, [12, 5]), (7, 3, .invokevirtual 130, [0, 270, 1, 0]),
  (10, 3, .if_icmp .ge 49, []), (13, 1, .aload_n 0, []), (14, 3, .getfield 29, [12, 5]), (17, 1, .iload_n 3, []), (18, 3, .invokevirtual 143, [0, 272, 2, 0]), (21, 3, .checkcast 300, [8]),
  (24, 2, .astore 4, []), (26, 2, .aload 4, []), (28, 1, .aload_n 0, []), (29, 3, .getfield 77, [12, 6]), (32, 3, .getfield 416, [6, 6]), (35, 3, .invokevirtual 315, [0, 53, 2, 8]),
  (38, 3, .ifCond .eq 15, []), (41, 2, .aload 4, []), (43, 1, .iload_n 2, []), (44, 3, .invokevirtual 312, [0, 55, 2, 8]), (47, 1, .iload_n 1, []), (48, 3, .if_icmp .ne 5, []),
  (51, 1, .iconst 0, []), (52, 1, .ireturn, []), (53, 3, .iinc 3 1, []), (56, 3, .goto (-54), []), (59, 1, .aload_n 0, []), (60, 3, .getfield 77, [12, 6]),
  (63, 1, .iload_n 1, []), (64, 3, .invokevirtual 450, [0, 41, 2, 6]), (67, 1, .ireturn, [])]
set_option maxRecDepth 20000 in
def k_X11_bestTree : List az_I := [
  (0, 1, .iload_n 1, []), (1, 3, .invokestatic 120, [0, 130, 1, 999]), (4, 3, .ifCond .eq 15, []), (7, 1, .iload_n 2, []), (8, 1, .iconst 1, []), (9, 3, .if_icmp .lt 10, []),
  (12, 1, .iload_n 2, []), (13, 3, .invokestatic 177, [0, 133, 1, 999]), (16, 3, .ifCond .ne 5, []), (19, 1, .iconst (-1), []), (20, 1, .ireturn, []), (21, 1, .aload_n 0, []),
  (22, 3, .getfield 77, [12, 6]), (25, 1, .iload_n 1, []), (26, 1, .aload_n 0, []), (27, 3, .getfield 105, [12, 15]), (30, 3, .invokevirtual 245, [0, 37, 3, 6]), (33, 1, .iconst 0, []),
  (34, 1, .istore_n 3, []), (35, 1, .iload_n 3, []), (36, 1, .aload_n 0, []), (37, 3, .getfield 102, [12, 12]), (40, 1, .arraylength, []), (41, 3, .if_icmp .ge 40, []),
  (44, 1, .aload_n 0, []), (45, 3, .getfield 102, [12, 12]), (48, 1, .iload_n 3, []), (49, 1, .aload_n 0, []), (50, 3, .getfield 77, [12, 6]), (53, 1, .iload_n 3, []),
  (54, 3, .invokevirtual 450, [0, 41, 2, 6]), (57, 3, .ifCond .eq 16, []), (60, 1, .aload_n 0, []), (61, 1, .iload_n 3, []), (62, 1, .iload_n 1, []), (63, 3, .invokevirtual 453, [0, 155, 3, 12]),
  (66, 3, .ifCond .ne 7, []), (69, 1, .iconst 0, []), (70, 3, .goto 4, []), (73, 1, .iconst (-1), []), (74, 1, .iastore, []), (75, 3, .iinc 3 1, []),
  (78, 3, .goto (-43), []), (81, 1, .iconst 0, []), (82, 1, .istore_n 3, []), (83, 1, .iload_n 3, []), (84, 2, .bipush 12, []), (86, 3, .if_icmp .ge 35, []),
  (89, 1, .aload_n 0, []), (90, 3, .getfield 10, [12, 1]), (93, 1, .iload_n 1, []), (94, 1, .iload_n 3, []), (95, 3, .invokevirtual 123, [0, 50, 3, 7]), (98, 3, .ifCond .ne 17, []),
  (101, 1, .aload_n 0, []), (102, 3, .getfield 77, [12, 6]), (105, 1, .iload_n 3, []), (106, 3, .invokevirtual 248, [0, 38, 2, 6]), (109, 1, .aload_n 0, []), (110, 1, .iload_n 3, []),
  (111, 1, .iload_n 2, []), (112, 3, .invokevirtual 456, [0, 156, 3, 12]), (115, 3, .iinc 3 1, []), (118, 3, .goto (-35), []), (121, 1, .iconst (-1), []), (122, 1, .istore_n 3, []),
  (123, 1, .iconst (-1), []), (124, 2, .istore 4, []), (126, 1, .iconst 0, []), (127, 2, .istore 5, []), (129, 2, .iload 5, []), (131, 1, .aload_n 0, []),
  (132, 3, .getfield 102, [12, 12]), (135, 1, .arraylength, []), (136, 3, .if_icmp .ge 33, []), (139, 1, .aload_n 0, []), (140, 3, .getfield 102, [12, 12]), (143, 2, .iload 5, []),
  (145, 1, .iaload, []), (146, 2, .iload 4, []), (148, 3, .if_icmp .le 15, []), (151, 2, .iload 5, []), (153, 1, .istore_n 3, []), (154, 1, .aload_n 0, []),
  (155, 3, .getfield 102, [12, 12]), (158, 2, .iload 5, []), (160, 1, .iaload, []), (161, 2, .istore 4, []), (163, 3, .iinc 5 1, []), (166, 3, .goto (-37), []),
  (169, 1, .iload_n 3, []), (170, 1, .ireturn, [])]
set_option maxRecDepth 20000 in
def k_X11_hasStall : List az_I := [
  (0, 1, .iconst 0, []), (1, 1, .istore_n 3, []), (2, 1, .iload_n 3, []), (3, 1, .aload_n 0, []), (4, 3, .getfield 29, [12, 5]), (7, 3, .invokevirtual 130, [0, 270, 1, 0]),
  (10, 3, .if_icmp .ge 42, []), (13, 1, .aload_n 0, []), (14, 3, .getfield 29, [12, 5]), (17, 1, .iload_n 3, []), (18, 3, .invokevirtual 143, [0, 272, 2, 0]), (21, 3, .checkcast 300, [8]),
  (24, 2, .astore 4, []), (26, 2, .aload 4, []), (28, 1, .iload_n 2, []), (29, 3, .invokevirtual 315, [0, 53, 2, 8]), (32, 3, .ifCond .eq 14, []), (35, 2, .aload 4, []),
  (37, 1, .iload_n 1, []), (38, 3, .invokevirtual 368, [0, 56, 2, 8]), (41, 3, .ifCond .eq 5, []), (44, 1, .iconst 1, []), (45, 1, .ireturn, []), (46, 3, .iinc 3 1, []),
  (49, 3, .goto (-47), []), (52, 1, .iconst 0, []), (53, 1, .ireturn, [])]
set_option maxRecDepth 20000 in
def k_X11_serveHour : List az_I := [
  (0, 1, .iconst 0, []), (1, 1, .istore_n 3, []), (2, 1, .iload_n 3, []), (3, 1, .aload_n 0, []), (4, 3, .getfield 29, [12, 5]), (7, 3, .invokevirtual 130, [0, 270, 1, 0]),
  (10, 3, .if_icmp .ge 77, []), (13, 1, .aload_n 0, []), (14, 3, .getfield 29, [12, 5]), (17, 1, .iload_n 3, []), (18, 3, .invokevirtual 143, [0, 272, 2, 0]), (21, 3, .checkcast 300, [8]),
  (24, 2, .astore 4, []), (26, 2, .aload 4, []), (28, 1, .iload_n 1, []), (29, 3, .invokevirtual 312, [0, 55, 2, 8]), (32, 2, .istore 5, []), (34, 2, .aload 4, []),
  (36, 1, .aload_n 0, []), (37, 3, .getfield 77, [12, 6]), (40, 3, .getfield 416, [6, 6]), (43, 3, .invokevirtual 315, [0, 53, 2, 8]), (46, 3, .ifCond .eq 35, []), (49, 1, .aload_n 0, []),
  (50, 3, .getfield 77, [12, 6]), (53, 2, .iload 5, []), (55, 3, .invokevirtual 450, [0, 41, 2, 6]), (58, 3, .ifCond .eq 23, []), (61, 1, .aload_n 0, []), (62, 3, .getfield 77, [12, 6]),
  (65, 2, .iload 5, []), (67, 3, .invokevirtual 252, [0, 42, 2, 6]), (70, 3, .ifCond .ne 11, []), (73, 1, .aload_n 0, []), (74, 2, .iload 5, []), (76, 1, .iload_n 1, []),
  (77, 1, .iload_n 2, []), (78, 3, .invokevirtual 459, [0, 157, 4, 12]), (81, 3, .iinc 3 1, []), (84, 3, .goto (-82), []), (87, 1, .return_, [])]
set_option maxRecDepth 20000 in
def k_X11_servePlace : List az_I := [
  (0, 1, .aload_n 0, []), (1, 3, .getfield 10, [12, 1]), (4, 1, .aload_n 0, []), (5, 3, .getfield 77, [12, 6]), (8, 3, .getfield 416, [6, 6]), (11, 1, .iload_n 2, []),
  (12, 3, .invokevirtual 374, [0, 48, 3, 7]), (15, 2, .istore 4, []), (17, 1, .aload_n 0, []), (18, 3, .getfield 10, [12, 1]), (21, 1, .aload_n 0, []), (22, 3, .getfield 77, [12, 6]),
  (25, 3, .getfield 416, [6, 6]), (28, 1, .iload_n 2, []), (29, 3, .invokevirtual 377, [0, 49, 3, 7]), (32, 2, .istore 5, []), (34, 1, .aload_n 0, []), (35, 3, .getfield 68, [12, 0]),
  (38, 1, .iload_n 1, []), (39, 3, .invokevirtual 380, [0, 6, 2, 2]), (42, 2, .istore 6, []), (44, 1, .aload_n 0, []), (45, 3, .getfield 68, [12, 0]), (48, 1, .iload_n 1, []),
  (49, 3, .invokevirtual 383, [0, 7, 2, 2]), (52, 2, .istore 7, []), (54, 1, .iload_n 1, []), (55, 2, .istore 8, []), (57, 1, .iconst 1, []), (58, 2, .istore 9, []),
  (60, 2, .iload 9, []), (62, 1, .iload_n 3, []), (63, 3, .if_icmp .gt 104, []), (66, 2, .iload 8, []), (68, 1, .iconst (-1), []), (69, 3, .if_icmp .eq 98, []),
  (72, 1, .aload_n 0, []), (73, 3, .getfield 68, [12, 0]), (76, 2, .iload 6, []), (78, 2, .iload 9, []), (80, 2, .iload 4, []), (82, 3, .invokestatic 386, [0, 137, 2, 999]),
  (85, 1, .isub, []), (86, 2, .iload 7, []), (88, 2, .iload 9, []), (90, 2, .iload 5, []), (92, 3, .invokestatic 386, [0, 137, 2, 999]), (95, 1, .isub, []),
  (96, 3, .invokevirtual 462, [0, 8, 3, 2]), (99, 2, .istore 10, []), (101, 2, .iload 10, []), (103, 2, .iload 8, []), (105, 3, .if_icmp .eq 22, []), (108, 2, .iload 10, []),
  (110, 3, .ifCond .lt 17, []), (113, 2, .iload 10, []), (115, 1, .aload_n 0, []), (116, 3, .getfield 102, [12, 12]), (119, 1, .arraylength, []), (120, 3, .if_icmp .ge 7, []),
  (123, 1, .iconst 1, []), (124, 3, .goto 4, []), (127, 1, .iconst 0, []), (128, 2, .istore 11, []), (130, 2, .iload 11, []), (132, 3, .ifCond .eq 25, []),
  (135, 1, .aload_n 0, []), (136, 3, .getfield 102, [12, 12]), (139, 2, .iload 10, []), (141, 1, .iaload, []), (142, 1, .iconst (-1), []), (143, 3, .if_icmp .eq 14, []),
  (146, 1, .aload_n 0, []), (147, 3, .getfield 102, [12, 12]), (150, 2, .iload 10, []), (152, 1, .dup2, []), (153, 1, .iaload, []), (154, 1, .iconst 1, []),
  (155, 1, .iadd, []), (156, 1, .iastore, []), (157, 2, .iload 10, []), (159, 2, .istore 8, []), (161, 3, .iinc 9 1, []), (164, 3, .goto (-104), []),
  (167, 1, .return_, [])]
set_option maxRecDepth 20000 in
def k_X12_init : List az_I := [
  (0, 1, .aload_n 0, []), (1, 3, .invokespecial 1, [1, 2, 3]), (4, 1, .aload_n 0, []), (5, 3, .sipush 144, []), (8, 2, .newarray .int, []), (10, 3, .putfield 7, [13, 4]),
  (13, 1, .aload_n 0, []), (14, 3, .sipush 144, []), (17, 2, .newarray .int, []), (19, 3, .putfield 13, [13, 5]), (22, 1, .aload_n 0, []), (23, 2, .bipush 60, []),
  (25, 2, .newarray .int, []), (27, 3, .putfield 16, [13, 7]), (30, 1, .aload_n 0, []), (31, 2, .bipush 60, []), (33, 2, .newarray .int, []), (35, 3, .putfield 19, [13, 8]),
  (38, 1, .aload_n 0, []), (39, 2, .bipush 16, []), (41, 2, .newarray .int, []), (43, 3, .putfield 22, [13, 10]), (46, 1, .aload_n 0, []), (47, 2, .bipush 16, []),
  (49, 2, .newarray .int, []), (51, 3, .putfield 25, [13, 11]), (54, 1, .aload_n 0, []), (55, 2, .bipush 24, []), (57, 2, .newarray .int, []), (59, 3, .putfield 28, [13, 13]),
  (62, 1, .aload_n 0, []), (63, 2, .bipush 24, []), (65, 2, .newarray .int, []), (67, 3, .putfield 31, [13, 14]), (70, 1, .aload_n 0, []), (71, 2, .bipush 24, []),
  (73, 2, .newarray .int, []), (75, 3, .putfield 34, [13, 15]), (78, 1, .aload_n 0, []), (79, 2, .bipush 24, []), (81, 2, .newarray .int, []), (83, 3, .putfield 37, [13, 16]),
  (86, 1, .aload_n 0, []), (87, 2, .bipush 24, []), (89, 2, .newarray .int, []), (91, 3, .putfield 40, [13, 17]), (94, 1, .aload_n 0, []), (95, 2, .bipush 24, []),
  (97, 2, .newarray .int, []), (99, 3, .putfield 43, [13, 18]), (102, 1, .aload_n 0, []), (103, 2, .bipush 24, []), (105, 2, .newarray .int, []), (107, 3, .putfield 46, [13, 19]),
  (110, 1, .aload_n 0, []), (111, 2, .bipush 24, []), (113, 2, .newarray .int, []), (115, 3, .putfield 49, [13, 20]), (118, 1, .aload_n 0, []), (119, 3, .sipush 984, []),
  (122, 2, .newarray .int, []), (124, 3, .putfield 52, [13, 21]), (127, 1, .aload_n 0, []), (128, 3, .sipush 984, []), (131, 2, .newarray .int, []), (133, 3, .putfield 55, [13, 22]),
  (136, 1, .aload_n 0, []), (137, 3, .sipush 984, []), (140, 2, .newarray .int, []), (142, 3, .putfield 58, [13, 23]), (145, 1, .aload_n 0, []), (146, 2, .bipush 24, []),
  (148, 2, .newarray .int, []), (150, 3, .putfield 61, [13, 24]), (153, 1, .aload_n 0, []), (154, 2, .bipush 24, []), (156, 2, .newarray .int, []), (158, 3, .putfield 64, [13, 25]),
  (161, 1, .aload_n 0, []), (162, 2, .bipush 24, []), (164, 2, .newarray .int, []), (166, 3, .putfield 67, [13, 26]), (169, 1, .aload_n 0, []), (170, 2, .bipush 60, []),
  (172, 2, .newarray .int, []), (174, 3, .putfield 70, [13, 28]), (177, 1, .aload_n 0, []), (178, 2, .bipush 60, []), (180, 2, .newarray .int, []), (182, 3, .putfield 73, [13, 29]),
  (185, 1, .aload_n 0, []), (186, 2, .bipush 60, []), (188, 2, .newarray .int, []), (190, 3, .putfield 76, [13, 30]), (193, 1, .aload_n 0, []), (194, 2, .bipush 60, []),
  (196, 2, .newarray .int, []), (198, 3, .putfield 79, [13, 31]), (201, 1, .aload_n 0, []), (202, 2, .bipush 60, []), (204, 2, .newarray .int, []), (206, 3, .putfield 82, [13, 32]),
  (209, 1, .aload_n 0, []), (210, 2, .bipush 60, []), (212, 2, .newarray .int, []), (214, 3, .putfield 85, [13, 33]), (217, 1, .aload_n 0, []), (218, 2, .bipush 60, []),
  (220, 2, .newarray .int, []), (222, 3, .putfield 88, [13, 34]), (225, 1, .aload_n 0, []), (226, 2, .bipush 60, []), (228, 2, .newarray .int, []), (230, 3, .putfield 91, [13, 35]),
  (233, 1, .aload_n 0, []), (234, 2, .bipush 60, []), (236, 2, .newarray .int, []), (238, 3, .putfield 94, [13, 36]), (241, 1, .aload_n 0, []), (242, 2, .bipush 60, []),
  (244, 2, .newarray .int, []), (246, 3, .putfield 97, [13, 37]), (249, 1, .aload_n 0, []), (250, 2, .bipush 60, []), (252, 2, .newarray .int, []), (254, 3, .putfield 100, [13, 38]),
  (257, 1, .aload_n 0, []), (258, 3, .sipush 400, []), (261, 2, .newarray .byte, []), (263, 3, .putfield 103, [13, 39]), (266, 1, .aload_n 0, []), (267, 1, .iconst (-1), []),
  (268, 3, .putfield 107, [13, 48]), (271, 1, .aload_n 0, []), (272, 1, .iconst (-1), []), (273, 3, .putfield 111, [13, 49]), (276, 1, .aload_n 0, []), (277, 3, .sipush 900, []),
  (280, 2, .newarray .int, []), (282, 3, .putfield 114, [13, 52]), (285, 1, .aload_n 0, []), (286, 3, .sipush 900, []), (289, 2, .newarray .int, []), (291, 3, .putfield 117, [13, 53]),
  (294, 1, .aload_n 0, []), (295, 3, .sipush 900, []), (298, 2, .newarray .int, []), (300, 3, .putfield 120, [13, 56]), (303, 1, .aload_n 0, []), (304, 3, .sipush 900, []),
  (307, 2, .newarray .int, []), (309, 3, .putfield 123, [13, 57]), (312, 1, .aload_n 0, []), (313, 2, .bipush 64, []), (315, 2, .newarray .int, []), (317, 3, .putfield 126, [13, 59]),
  (320, 1, .aload_n 0, []), (321, 3, .sipush 128, []), (324, 2, .newarray .int, []), (326, 3, .putfield 129, [13, 61]), (329, 1, .aload_n 0, []), (330, 3, .sipush 128, []),
  (333, 2, .newarray .int, []), (335, 3, .putfield 132, [13, 62]), (338, 1, .aload_n 0, []), (339, 3, .sipush 300, []), (342, 2, .newarray .long, []), (344, 3, .putfield 135, [13, 64]),
  (347, 1, .aload_n 0, []), (348, 2, .bipush 8, []), (350, 2, .newarray .int, []), (352, 3, .putfield 139, [13, 65]), (355, 1, .aload_n 0, []), (356, 2, .bipush 10, []),
  (358, 2, .newarray .int, []), (360, 3, .putfield 142, [13, 67]), (363, 1, .aload_n 0, []), (364, 2, .bipush 10, []), (366, 2, .newarray .int, []), (368, 3, .putfield 145, [13, 68]),
  (371, 1, .aload_n 0, []), (372, 2, .bipush 10, []), (374, 2, .newarray .int, []), (376, 3, .putfield 148, [13, 69]), (379, 1, .aload_n 0, []), (380, 2, .bipush 120, []),
  (382, 2, .newarray .int, []), (384, 3, .putfield 151, [13, 70]), (387, 1, .aload_n 0, []), (388, 3, .sipush 192, []), (391, 2, .newarray .boolean, []), (393, 3, .putfield 154, [13, 71]),
  (396, 1, .aload_n 0, []), (397, 3, .sipush 192, []), (400, 2, .newarray .int, []), (402, 3, .putfield 158, [13, 72]), (405, 1, .aload_n 0, []), (406, 3, .sipush 192, []),
  (409, 2, .newarray .int, []), (411, 3, .putfield 161, [13, 73]), (414, 1, .aload_n 0, []), (415, 3, .sipush 192, []), (418, 2, .newarray .boolean, []), (420, 3, .putfield 164, [13, 74]),
  (423, 1, .aload_n 0, []), (424, 2, .bipush 24, []), (426, 2, .newarray .int, []), (428, 3, .putfield 167, [13, 75]), (431, 1, .aload_n 0, []), (432, 2, .bipush 24, []),
  (434, 2, .newarray .int, []), (436, 3, .putfield 170, [13, 76]), (439, 1, .aload_n 0, []), (440, 2, .bipush 65, []), (442, 2, .newarray .int, []), (444, 3, .putfield 173, [13, 77]),
  (447, 1, .aload_n 0, []), (448, 2, .bipush 65, []), (450, 2, .newarray .int, []), (452, 3, .putfield 176, [13, 79]), (455, 1, .aload_n 0, []), (456, 3, .sipush 2304, []),
  (459, 2, .newarray .boolean, []), (461, 3, .putfield 179, [13, 80]), (464, 1, .aload_n 0, []), (465, 3, .sipush 2304, []), (468, 2, .newarray .int, []), (470, 3, .putfield 182, [13, 81]),
  (473, 1, .aload_n 0, []), (474, 3, .sipush 2304, []), (477, 2, .newarray .long, []), (479, 3, .putfield 185, [13, 82]), (482, 1, .aload_n 0, []), (483, 3, .sipush 2304, []),
  (486, 2, .newarray .int, []), (488, 3, .putfield 188, [13, 83]), (491, 1, .aload_n 0, []), (492, 3, .sipush 2304, []), (495, 2, .newarray .long, []), (497, 3, .putfield 191, [13, 84]),
  (500, 1, .aload_n 0, []), (501, 2, .bipush 12, []), (503, 2, .newarray .int, []), (505, 3, .putfield 194, [13, 87]), (508, 1, .aload_n 0, []), (509, 3, .sipush 192, []),
  (512, 2, .newarray .int, []), (514, 3, .putfield 197, [13, 89]), (517, 1, .aload_n 0, []), (518, 1, .iload_n 1, []), (519, 1, .iconst 4, []), (520, 3, .if_icmp .ge 7, []),
  (523, 1, .iconst 4, []), (524, 3, .goto 15, []), (527, 1, .iload_n 1, []), (528, 2, .bipush 16, []), (530, 3, .if_icmp .le 8, []), (533, 2, .bipush 16, []),
  (535, 3, .goto 4, []), (538, 1, .iload_n 1, []), (539, 3, .putfield 200, [13, 0]), (542, 1, .aload_n 0, []), (543, 1, .iload_n 2, []), (544, 1, .iconst 4, []),
  (545, 3, .if_icmp .ge 7, []), (548, 1, .iconst 4, []), (549, 3, .goto 15, []), (552, 1, .iload_n 2, []), (553, 2, .bipush 12, []), (555, 3, .if_icmp .le 8, []),
  (558, 2, .bipush 12, []), (560, 3, .goto 4, []), (563, 1, .iload_n 2, []), (564, 3, .putfield 203, [13, 1]), (567, 1, .aload_n 0, []), (568, 1, .aload_n 0, []),
  (569, 3, .getfield 200, [13, 0]), (572, 1, .aload_n 0, []), (573, 3, .getfield 203, [13, 1]), (576, 1, .imul, []), (577, 3, .putfield 206, [13, 2]), (580, 1, .iconst 0, []),
  (581, 1, .istore_n 3, []), (582, 1, .iload_n 3, []), (583, 2, .bipush 12, []), (585, 3, .if_icmp .ge 81, []), (588, 1, .iconst 0, []), (589, 2, .istore 4, []),
  (591, 2, .iload 4, []), (593, 2, .bipush 12, []), (595, 3, .if_icmp .ge 65, []), (598, 1, .aload_n 0, []), (599, 3, .getfield 7, [13, 4]), (602, 2, .bipush 12, []),
  (604, 1, .iload_n 3, []), (605, 1, .imul, []), (606, 2, .iload 4, []), (608, 1, .iadd, []), (609, 2, .bipush 20, []), (611, 1, .iconst 2, []),
  (612, 2, .iload 4, []), (614, 1, .imul, []), (615, 2, .bipush 11, []), (617, 1, .isub, []), (618, 1, .imul, []), (619, 1, .iastore, []),
  (620, 1, .aload_n 0, []), (621, 3, .getfield 13, [13, 5]), (624, 2, .bipush 12, []), (626, 1, .iload_n 3, []), (627, 1, .imul, []), (628, 2, .iload 4, []),
  (630, 1, .iadd, []), (631, 2, .bipush 20, []), (633, 1, .iconst 5, []), (634, 1, .iload_n 3, []), (635, 2, .bipush 6, []), (637, 3, .if_icmp .ge 10, []),
  (640, 2, .bipush 6, []), (642, 1, .iload_n 3, []), (643, 1, .isub, []), (644, 3, .goto 7, []), (647, 1, .iload_n 3, []), (648, 2, .bipush 6, []),
  (650, 1, .isub, []), (651, 1, .imul, []), (652, 1, .iadd, []), (653, 1, .iastore, []), (654, 3, .iinc 4 1, []), (657, 3, .goto (-66), []),
  (660, 3, .iinc 3 1, []), (663, 3, .goto (-81), []), (666, 1, .return_, [])]
set_option maxRecDepth 20000 in
def k_X12_in : List az_I := [
  (0, 1, .lload_n 0, []), (1, 1, .lload_n 2, []), (2, 1, .lcmp, []), (3, 3, .ifCond .lt 14, []), (6, 1, .lload_n 0, []), (7, 2, .lload 4, []),
  (9, 1, .lcmp, []), (10, 3, .ifCond .gt 7, []), (13, 1, .iconst 1, []), (14, 3, .goto 4, []), (17, 1, .iconst 0, []), (18, 1, .ireturn, [])]
set_option maxRecDepth 20000 in
def k_X12_isDay : List az_I := [
  (0, 1, .iload_n 0, []), (1, 1, .i2l, []), (2, 1, .lconst 0, []), (3, 3, .ldc2_w 209, [3599]), (6, 3, .invokestatic 211, [0, 159, 3, 999]), (9, 1, .ireturn, [])]
set_option maxRecDepth 20000 in
def k_X12_isHour : List az_I := [
  (0, 1, .iload_n 0, []), (1, 1, .i2l, []), (2, 1, .lconst 0, []), (3, 3, .ldc2_w 215, [11]), (6, 3, .invokestatic 211, [0, 159, 3, 999]), (9, 1, .ireturn, [])]
set_option maxRecDepth 20000 in
def k_X12_isCell : List az_I := [
  (0, 1, .iload_n 1, []), (1, 1, .i2l, []), (2, 1, .lconst 0, []), (3, 1, .aload_n 0, []), (4, 3, .getfield 206, [13, 2]), (7, 1, .iconst 1, []),
  (8, 1, .isub, []), (9, 1, .i2l, []), (10, 3, .invokestatic 211, [0, 159, 3, 999]), (13, 1, .ireturn, [])]
set_option maxRecDepth 20000 in
def k_X12_isPerson : List az_I := [
  (0, 1, .iload_n 1, []), (1, 1, .i2l, []), (2, 1, .lconst 0, []), (3, 1, .aload_n 0, []), (4, 3, .getfield 217, [13, 9]), (7, 1, .iconst 1, []),
  (8, 1, .isub, []), (9, 1, .i2l, []), (10, 3, .invokestatic 211, [0, 159, 3, 999]), (13, 1, .ireturn, [])]
set_option maxRecDepth 20000 in
def k_X12_isThing : List az_I := [
  (0, 1, .iload_n 1, []), (1, 1, .i2l, []), (2, 1, .lconst 0, []), (3, 1, .aload_n 0, []), (4, 3, .getfield 220, [13, 12]), (7, 1, .iconst 1, []),
  (8, 1, .isub, []), (9, 1, .i2l, []), (10, 3, .invokestatic 211, [0, 159, 3, 999]), (13, 1, .ireturn, [])]
set_option maxRecDepth 20000 in
def k_X12_monthOf : List az_I := [
  (0, 1, .iload_n 0, []), (1, 3, .sipush 360, []), (4, 1, .irem, []), (5, 2, .bipush 30, []), (7, 1, .idiv, []), (8, 1, .ireturn, [])]
set_option maxRecDepth 20000 in
def k_X12_days : List az_I := [
  (0, 1, .iload_n 1, []), (1, 1, .i2l, []), (2, 1, .lconst 1, []), (3, 3, .ldc2_w 223, [400]), (6, 3, .invokestatic 211, [0, 159, 3, 999]), (9, 3, .ifCond .eq 15, []),
  (12, 1, .aload_n 0, []), (13, 3, .getfield 225, [13, 3]), (16, 1, .iload_n 1, []), (17, 1, .iadd, []), (18, 3, .sipush 3599, []), (21, 3, .if_icmp .le 5, []),
  (24, 1, .iconst (-1), []), (25, 1, .ireturn, []), (26, 1, .aload_n 0, []), (27, 1, .dup, []), (28, 3, .getfield 225, [13, 3]), (31, 1, .iload_n 1, []),
  (32, 1, .iadd, []), (33, 3, .putfield 225, [13, 3]), (36, 1, .aload_n 0, []), (37, 3, .getfield 225, [13, 3]), (40, 1, .ireturn, [])]
set_option maxRecDepth 20000 in
def k_X12_sun : List az_I := [
  (0, 1, .iload_n 1, []), (1, 1, .i2l, []), (2, 1, .lconst 0, []), (3, 3, .ldc2_w 215, [11]), (6, 3, .invokestatic 211, [0, 159, 3, 999]), (9, 3, .ifCond .eq 39, []),
  (12, 1, .iload_n 2, []), (13, 3, .invokestatic 228, [0, 161, 1, 999]), (16, 3, .ifCond .eq 32, []), (19, 1, .iload_n 3, []), (20, 1, .i2l, []), (21, 3, .ldc2_w 232, [18446744073709551316]),
  (24, 3, .ldc2_w 234, [300]), (27, 3, .invokestatic 211, [0, 159, 3, 999]), (30, 3, .ifCond .eq 18, []), (33, 2, .iload 4, []), (35, 1, .i2l, []), (36, 3, .ldc2_w 232, [18446744073709551316]),
  (39, 3, .ldc2_w 234, [300]), (42, 3, .invokestatic 211, [0, 159, 3, 999]), (45, 3, .ifCond .ne 5, []), (48, 1, .iconst 0, []), (49, 1, .ireturn, []), (50, 1, .aload_n 0, []),
  (51, 3, .getfield 7, [13, 4]), (54, 2, .bipush 12, []), (56, 1, .iload_n 1, []), (57, 1, .imul, []), (58, 1, .iload_n 2, []), (59, 1, .iadd, []),
  (60, 1, .iload_n 3, []), (61, 1, .iastore, []), (62, 1, .aload_n 0, []), (63, 3, .getfield 13, [13, 5]), (66, 2, .bipush 12, []), (68, 1, .iload_n 1, []),
  (69, 1, .imul, []), (70, 1, .iload_n 2, []), (71, 1, .iadd, []), (72, 2, .iload 4, []), (74, 1, .iastore, []), (75, 1, .iconst 1, []),
  (76, 1, .ireturn, [])]
set_option maxRecDepth 20000 in
def k_X12_isCloud : List az_I := [
  (0, 1, .iconst 0, []), (1, 1, .istore_n 3, []), (2, 1, .iconst 0, []), (3, 2, .istore 4, []), (5, 2, .iload 4, []), (7, 1, .aload_n 0, []),
  (8, 3, .getfield 236, [13, 6]), (11, 3, .if_icmp .ge 41, []), (14, 1, .iload_n 3, []), (15, 3, .ifCond .ne 25, []), (18, 1, .aload_n 0, []), (19, 3, .getfield 16, [13, 7]),
  (22, 2, .iload 4, []), (24, 1, .iaload, []), (25, 1, .iload_n 1, []), (26, 3, .if_icmp .ne 18, []), (29, 1, .aload_n 0, []), (30, 3, .getfield 19, [13, 8]),
  (33, 2, .iload 4, []), (35, 1, .iaload, []), (36, 1, .iload_n 2, []), (37, 3, .if_icmp .ne 7, []), (40, 1, .iconst 1, []), (41, 3, .goto 4, []),
  (44, 1, .iconst 0, []), (45, 1, .istore_n 3, []), (46, 3, .iinc 4 1, []), (49, 3, .goto (-44), []), (52, 1, .iload_n 3, []), (53, 1, .ireturn, [])]
set_option maxRecDepth 20000 in
def k_X12_cloud : List az_I := [
  (0, 1, .iload_n 1, []), (1, 3, .invokestatic 239, [0, 160, 1, 999]), (4, 3, .ifCond .eq 28, []), (7, 1, .iload_n 2, []), (8, 3, .invokestatic 228, [0, 161, 1, 999]), (11, 3, .ifCond .eq 21, []),
  (14, 1, .aload_n 0, []), (15, 1, .iload_n 1, []), (16, 1, .iload_n 2, []), (17, 3, .invokevirtual 242, [0, 168, 3, 13]), (20, 3, .ifCond .ne 12, []), (23, 1, .aload_n 0, []),
  (24, 3, .getfield 236, [13, 6]), (27, 2, .bipush 60, []), (29, 3, .if_icmp .ne 5, []), (32, 1, .iconst (-1), []), (33, 1, .ireturn, []), (34, 1, .aload_n 0, []),
  (35, 3, .getfield 16, [13, 7]), (38, 1, .aload_n 0, []), (39, 3, .getfield 236, [13, 6]), (42, 1, .iload_n 1, []), (43, 1, .iastore, []), (44, 1, .aload_n 0, []),
  (45, 3, .getfield 19, [13, 8]), (48, 1, .aload_n 0, []), (49, 3, .getfield 236, [13, 6]), (52, 1, .iload_n 2, []), (53, 1, .iastore, []), (54, 1, .aload_n 0, []),
  (55, 1, .dup, []), (56, 3, .getfield 236, [13, 6]), (59, 1, .iconst 1, []), (60, 1, .iadd, []), (61, 3, .putfield 236, [13, 6]), (64, 1, .aload_n 0, []),
  (65, 3, .getfield 236, [13, 6]), (68, 1, .ireturn, [])]
set_option maxRecDepth 20000 in
def k_X12_person : List az_I := [
  (0, 1, .aload_n 0, []), (1, 3, .getfield 217, [13, 9]), (4, 2, .bipush 16, []), (6, 3, .if_icmp .ne 5, []), (9, 1, .iconst (-1), []), (10, 1, .ireturn, []),
  (11, 1, .aload_n 0, []), (12, 3, .getfield 22, [13, 10]), (15, 1, .aload_n 0, []), (16, 3, .getfield 217, [13, 9]), (19, 1, .iconst (-1), []), (20, 1, .iastore, []),
  (21, 1, .aload_n 0, []), (22, 1, .dup, []), (23, 3, .getfield 217, [13, 9]), (26, 1, .iconst 1, []), (27, 1, .iadd, []), (28, 3, .putfield 217, [13, 9]),
  (31, 1, .aload_n 0, []), (32, 3, .getfield 217, [13, 9]), (35, 1, .iconst 1, []), (36, 1, .isub, []), (37, 1, .ireturn, [])]
set_option maxRecDepth 20000 in
def k_X12_died : List az_I := [
  (0, 1, .aload_n 0, []), (1, 1, .iload_n 1, []), (2, 3, .invokevirtual 246, [0, 163, 2, 13]), (5, 3, .ifCond .eq 26, []), (8, 1, .iload_n 2, []), (9, 1, .i2l, []),
  (10, 1, .lconst 0, []), (11, 1, .aload_n 0, []), (12, 3, .getfield 225, [13, 3]), (15, 1, .i2l, []), (16, 3, .invokestatic 211, [0, 159, 3, 999]), (19, 3, .ifCond .eq 12, []),
  (22, 1, .aload_n 0, []), (23, 3, .getfield 22, [13, 10]), (26, 1, .iload_n 1, []), (27, 1, .iaload, []), (28, 3, .ifCond .lt 5, []), (31, 1, .iconst 0, []),
  (32, 1, .ireturn, []), (33, 1, .aload_n 0, []), (34, 3, .getfield 22, [13, 10]), (37, 1, .iload_n 1, []), (38, 1, .iload_n 2, []), (39, 1, .iastore, []),
  (40, 1, .aload_n 0, []), (41, 3, .getfield 25, [13, 11]), (44, 1, .iload_n 1, []), (45, 1, .aload_n 0, []), (46, 3, .getfield 225, [13, 3]), (49, 1, .iastore, []),
  (50, 1, .iconst 1, []), (51, 1, .ireturn, [])]
set_option maxRecDepth 20000 in
def k_X12_mayStand : List az_I := [
  (0, 1, .aload_n 0, []), (1, 1, .iload_n 1, []), (2, 3, .invokevirtual 249, [0, 162, 2, 13]), (5, 3, .ifCond .eq 36, []), (8, 1, .aload_n 0, []), (9, 1, .iload_n 2, []),
  (10, 3, .invokevirtual 246, [0, 163, 2, 13]), (13, 3, .ifCond .eq 28, []), (16, 1, .iload_n 3, []), (17, 1, .i2l, []), (18, 1, .lconst 0, []), (19, 3, .ldc2_w 252, [60]),
  (22, 3, .invokestatic 211, [0, 159, 3, 999]), (25, 3, .ifCond .eq 16, []), (28, 1, .aload_n 0, []), (29, 3, .getfield 220, [13, 12]), (32, 2, .bipush 24, []), (34, 3, .if_icmp .ge 7, []),
  (37, 1, .iconst 1, []), (38, 3, .goto 4, []), (41, 1, .iconst 0, []), (42, 2, .istore 4, []), (44, 1, .iconst 0, []), (45, 2, .istore 5, []),
  (47, 2, .iload 5, []), (49, 1, .aload_n 0, []), (50, 3, .getfield 220, [13, 12]), (53, 3, .if_icmp .ge 42, []), (56, 2, .iload 4, []), (58, 3, .ifCond .eq 37, []),
  (61, 1, .aload_n 0, []), (62, 3, .getfield 31, [13, 14]), (65, 2, .iload 5, []), (67, 1, .iaload, []), (68, 1, .iload_n 1, []), (69, 3, .if_icmp .ne 13, []),
  (72, 1, .aload_n 0, []), (73, 3, .getfield 61, [13, 24]), (76, 2, .iload 5, []), (78, 1, .iaload, []), (79, 3, .ifCond .lt 7, []), (82, 1, .iconst 1, []),
  (83, 3, .goto 4, []), (86, 1, .iconst 0, []), (87, 2, .istore 4, []), (89, 3, .iinc 5 1, []), (92, 3, .goto (-45), []), (95, 1, .iconst 0, []),
  (96, 2, .istore 5, []), (98, 2, .iload 5, []), (100, 2, .bipush 120, []), (102, 3, .if_icmp .ge 61, []), (105, 2, .iload 4, []), (107, 3, .ifCond .eq 56, []),
  (110, 2, .iload 5, []), (112, 2, .bipush 12, []), (114, 1, .idiv, []), (115, 1, .aload_n 0, []), (116, 3, .getfield 254, [13, 66]), (119, 3, .if_icmp .ge 31, []),
  (122, 1, .aload_n 0, []), (123, 3, .getfield 151, [13, 70]), (126, 2, .iload 5, []), (128, 1, .iaload, []), (129, 1, .iload_n 1, []), (130, 3, .if_icmp .ne 20, []),
  (133, 1, .aload_n 0, []), (134, 3, .getfield 148, [13, 69]), (137, 2, .iload 5, []), (139, 2, .bipush 12, []), (141, 1, .idiv, []), (142, 1, .iaload, []),
  (143, 1, .aload_n 0, []), (144, 3, .getfield 225, [13, 3]), (147, 3, .if_icmp .ge 7, []), (150, 1, .iconst 1, []), (151, 3, .goto 4, []), (154, 1, .iconst 0, []),
  (155, 2, .istore 4, []), (157, 3, .iinc 5 1, []), (160, 3, .goto (-62), []), (163, 2, .iload 4, []), (165, 1, .ireturn, [])]
set_option maxRecDepth 20000 in
def k_X12_stands : List az_I := [
  (0, 1, .aload_n 0, []), (1, 3, .getfield 220, [13, 12]), (4, 2, .istore 5, []), (6, 1, .aload_n 0, []), (7, 3, .getfield 28, [13, 13]), (10, 2, .iload 5, []),
  (12, 1, .iload_n 1, []), (13, 1, .iastore, []), (14, 1, .aload_n 0, []), (15, 3, .getfield 31, [13, 14]), (18, 2, .iload 5, []), (20, 1, .iload_n 2, []),
  (21, 1, .iastore, []), (22, 1, .aload_n 0, []), (23, 3, .getfield 34, [13, 15]), (26, 2, .iload 5, []), (28, 1, .iload_n 3, []), (29, 1, .iastore, []),
  (30, 1, .aload_n 0, []), (31, 3, .getfield 37, [13, 16]), (34, 2, .iload 5, []), (36, 1, .aload_n 0, []), (37, 3, .getfield 225, [13, 3]), (40, 1, .iastore, []),
  (41, 1, .aload_n 0, []), (42, 3, .getfield 40, [13, 17]), (45, 2, .iload 5, []), (47, 1, .iconst 0, []), (48, 1, .iastore, []), (49, 1, .aload_n 0, []),
  (50, 3, .getfield 43, [13, 18]), (53, 2, .iload 5, []), (55, 1, .iconst 0, []), (56, 1, .iastore, []), (57, 1, .aload_n 0, []), (58, 3, .getfield 46, [13, 19]),
  (61, 2, .iload 5, []), (63, 1, .iconst 0, []), (64, 1, .iastore, []), (65, 1, .aload_n 0, []), (66, 3, .getfield 49, [13, 20]), (69, 2, .iload 5, []),
  (71, 1, .iconst 0, []), (72, 1, .iastore, []), (73, 1, .aload_n 0, []), (74, 3, .getfield 61, [13, 24]), (77, 2, .iload 5, []), (79, 1, .iconst (-1), []),
  (80, 1, .iastore, []), (81, 1, .aload_n 0, []), (82, 3, .getfield 67, [13, 26]), (85, 2, .iload 5, []), (87, 1, .iconst (-1), []), (88, 1, .iastore, []),
  (89, 1, .aload_n 0, []), (90, 1, .dup, []), (91, 3, .getfield 220, [13, 12]), (94, 1, .iconst 1, []), (95, 1, .iadd, []), (96, 3, .putfield 220, [13, 12]),
  (99, 1, .aload_n 0, []), (100, 2, .iload 5, []), (102, 1, .aload_n 0, []), (103, 3, .getfield 225, [13, 3]), (106, 2, .iload 4, []), (108, 3, .invokevirtual 257, [0, 174, 4, 13]),
  (111, 2, .iload 5, []), (113, 1, .ireturn, [])]
set_option maxRecDepth 20000 in
def k_X12_enters : List az_I := [
  (0, 2, .bipush 41, []), (2, 1, .iload_n 1, []), (3, 1, .imul, []), (4, 1, .aload_n 0, []), (5, 3, .getfield 49, [13, 20]), (8, 1, .iload_n 1, []),
  (9, 1, .iaload, []), (10, 1, .iadd, []), (11, 2, .istore 4, []), (13, 1, .aload_n 0, []), (14, 3, .getfield 52, [13, 21]), (17, 2, .iload 4, []),
  (19, 1, .iload_n 2, []), (20, 1, .iastore, []), (21, 1, .aload_n 0, []), (22, 3, .getfield 55, [13, 22]), (25, 2, .iload 4, []), (27, 1, .iload_n 3, []),
  (28, 1, .iastore, []), (29, 1, .aload_n 0, []), (30, 3, .getfield 58, [13, 23]), (33, 2, .iload 4, []), (35, 1, .aload_n 0, []), (36, 3, .getfield 225, [13, 3]),
  (39, 1, .iastore, []), (40, 1, .aload_n 0, []), (41, 3, .getfield 49, [13, 20]), (44, 1, .iload_n 1, []), (45, 1, .dup2, []), (46, 1, .iaload, []),
  (47, 1, .iconst 1, []), (48, 1, .iadd, []), (49, 1, .iastore, []), (50, 1, .return_, [])]
set_option maxRecDepth 20000 in
def k_X12_wall : List az_I := [
  (0, 1, .aload_n 0, []), (1, 1, .iload_n 1, []), (2, 1, .iload_n 2, []), (3, 1, .iload_n 3, []), (4, 3, .invokevirtual 261, [0, 172, 4, 13]), (7, 3, .ifCond .eq 14, []),
  (10, 1, .aload_n 0, []), (11, 1, .iconst 0, []), (12, 1, .iload_n 1, []), (13, 1, .iload_n 2, []), (14, 1, .iload_n 3, []), (15, 3, .invokevirtual 265, [0, 173, 5, 13]),
  (18, 3, .goto 4, []), (21, 1, .iconst (-1), []), (22, 1, .ireturn, [])]
set_option maxRecDepth 20000 in
def k_X12_tree : List az_I := [
  (0, 1, .aload_n 0, []), (1, 1, .iload_n 1, []), (2, 1, .iload_n 2, []), (3, 1, .iload_n 3, []), (4, 3, .invokevirtual 261, [0, 172, 4, 13]), (7, 3, .ifCond .eq 16, []),
  (10, 2, .iload 4, []), (12, 1, .i2l, []), (13, 1, .lconst 1, []), (14, 3, .ldc2_w 269, [999]), (17, 3, .invokestatic 211, [0, 159, 3, 999]), (20, 3, .ifCond .ne 5, []),
  (23, 1, .iconst (-1), []), (24, 1, .ireturn, []), (25, 1, .aload_n 0, []), (26, 1, .iconst 1, []), (27, 1, .iload_n 1, []), (28, 1, .iload_n 2, []),
  (29, 1, .iload_n 3, []), (30, 3, .invokevirtual 265, [0, 173, 5, 13]), (33, 2, .istore 5, []), (35, 1, .aload_n 0, []), (36, 3, .getfield 40, [13, 17]), (39, 2, .iload 5, []),
  (41, 2, .iload 4, []), (43, 1, .iastore, []), (44, 2, .iload 5, []), (46, 1, .ireturn, [])]
