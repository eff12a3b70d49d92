set_option maxRecDepth 20000 in
def k_X0_init : List az_I := [
  (0, 1, .aload_n 0, []), (1, 3, .invokespecial 3, [1, 2, 3]), (4, 1, .aload_n 0, []), (5, 1, .iload_n 1, []), (6, 3, .putfield 9, [1, 0]), (9, 1, .aload_n 0, []),
  (10, 1, .aload_n 2, []), (11, 3, .putfield 15, [1, 1]), (14, 1, .aload_n 0, []), (15, 1, .iload_n 3, []), (16, 3, .putfield 19, [1, 2]), (19, 1, .aload_n 0, []),
  (20, 2, .iload 4, []), (22, 3, .putfield 22, [1, 3]), (25, 1, .aload_n 0, []), (26, 2, .iload 5, []), (28, 3, .putfield 25, [1, 4]), (31, 1, .aload_n 0, []),
  (32, 2, .iload 6, []), (34, 3, .putfield 28, [1, 5]), (37, 1, .return_, [])]
set_option maxRecDepth 20000 in
def k_X0_limit : List az_I := [
  (0, 1, .aload_n 0, []), (1, 1, .iload_n 1, []), (2, 2, .bipush 16, []), (4, 1, .idiv, []), (5, 3, .putfield 31, [1, 6]), (8, 1, .aload_n 0, []),
  (9, 1, .iload_n 1, []), (10, 2, .bipush 16, []), (12, 1, .irem, []), (13, 3, .putfield 34, [1, 7]), (16, 1, .aload_n 0, []), (17, 1, .iload_n 2, []),
  (18, 2, .bipush 16, []), (20, 1, .idiv, []), (21, 3, .putfield 37, [1, 8]), (24, 1, .aload_n 0, []), (25, 1, .iload_n 2, []), (26, 2, .bipush 16, []),
  (28, 1, .irem, []), (29, 3, .putfield 40, [1, 9]), (32, 1, .aload_n 0, []), (33, 1, .iload_n 3, []), (34, 3, .putfield 43, [1, 10]), (37, 1, .aload_n 0, []),
  (38, 2, .iload 4, []), (40, 3, .putfield 46, [1, 11]), (43, 1, .return_, [])]
set_option maxRecDepth 20000 in
def k_X0_covers : List az_I := [
  (0, 1, .iload_n 2, []), (1, 1, .aload_n 0, []), (2, 3, .getfield 31, [1, 6]), (5, 3, .if_icmp .lt 11, []), (8, 1, .iload_n 2, []), (9, 1, .aload_n 0, []),
  (10, 3, .getfield 34, [1, 7]), (13, 3, .if_icmp .le 5, []), (16, 1, .iconst 0, []), (17, 1, .ireturn, []), (18, 1, .iload_n 1, []), (19, 3, .invokestatic 49, [0, 136, 1, 999]),
  (22, 1, .istore_n 3, []), (23, 1, .aload_n 0, []), (24, 3, .getfield 37, [1, 8]), (27, 1, .aload_n 0, []), (28, 3, .getfield 40, [1, 9]), (31, 3, .if_icmp .gt 25, []),
  (34, 1, .iload_n 3, []), (35, 1, .aload_n 0, []), (36, 3, .getfield 37, [1, 8]), (39, 3, .if_icmp .lt 15, []), (42, 1, .iload_n 3, []), (43, 1, .aload_n 0, []),
  (44, 3, .getfield 40, [1, 9]), (47, 3, .if_icmp .gt 7, []), (50, 1, .iconst 1, []), (51, 3, .goto 4, []), (54, 1, .iconst 0, []), (55, 1, .ireturn, []),
  (56, 1, .iload_n 3, []), (57, 1, .aload_n 0, []), (58, 3, .getfield 37, [1, 8]), (61, 3, .if_icmp .ge 11, []), (64, 1, .iload_n 3, []), (65, 1, .aload_n 0, []),
  (66, 3, .getfield 40, [1, 9]), (69, 3, .if_icmp .gt 7, []), (72, 1, .iconst 1, []), (73, 3, .goto 4, []), (76, 1, .iconst 0, []), (77, 1, .ireturn, [])]
set_option maxRecDepth 20000 in
def k_X0_holdsOn : List az_I := [
  (0, 1, .aload_n 0, []), (1, 3, .getfield 25, [1, 4]), (4, 28, .tableswitch 89 0 2 #[28, 42, 64], []), (32, 1, .iload_n 1, []), (33, 1, .aload_n 0, []), (34, 3, .getfield 43, [1, 10]),
  (37, 3, .if_icmp .lt 7, []), (40, 1, .iconst 1, []), (41, 3, .goto 4, []), (44, 1, .iconst 0, []), (45, 1, .ireturn, []), (46, 1, .iload_n 1, []),
  (47, 1, .aload_n 0, []), (48, 3, .getfield 43, [1, 10]), (51, 3, .if_icmp .lt 15, []), (54, 1, .iload_n 1, []), (55, 1, .aload_n 0, []), (56, 3, .getfield 46, [1, 11]),
  (59, 3, .if_icmp .gt 7, []), (62, 1, .iconst 1, []), (63, 3, .goto 4, []), (66, 1, .iconst 0, []), (67, 1, .ireturn, []), (68, 1, .aload_n 0, []),
  (69, 3, .getfield 15, [1, 1]), (72, 3, .ifnull 19, []), (75, 1, .aload_n 0, []), (76, 3, .getfield 15, [1, 1]), (79, 1, .iload_n 1, []), (80, 1, .iload_n 2, []),
  (81, 3, .invokevirtual 53, [0, 25, 3, 4]), (84, 3, .ifCond .eq 7, []), (87, 1, .iconst 1, []), (88, 3, .goto 4, []), (91, 1, .iconst 0, []), (92, 1, .ireturn, []),
  (93, 1, .iconst 0, []), (94, 1, .ireturn, [])]
set_option maxRecDepth 20000 in
def k_X1_init : List az_I := [
  (0, 1, .aload_n 0, []), (1, 3, .invokespecial 3, [1, 2, 3]), (4, 1, .aload_n 0, []), (5, 1, .iconst 4, []), (6, 2, .bipush 16, []), (8, 1, .iload_n 1, []),
  (9, 3, .invokestatic 9, [0, 257, 2, 999]), (12, 3, .invokestatic 15, [0, 255, 2, 999]), (15, 3, .putfield 18, [2, 0]), (18, 1, .aload_n 0, []), (19, 1, .iconst 4, []), (20, 2, .bipush 12, []),
  (22, 1, .iload_n 2, []), (23, 3, .invokestatic 9, [0, 257, 2, 999]), (26, 3, .invokestatic 15, [0, 255, 2, 999]), (29, 3, .putfield 24, [2, 1]), (32, 1, .aload_n 0, []), (33, 1, .aload_n 0, []),
  (34, 3, .getfield 18, [2, 0]), (37, 1, .aload_n 0, []), (38, 3, .getfield 24, [2, 1]), (41, 1, .imul, []), (42, 3, .putfield 27, [2, 2]), (45, 1, .return_, [])]
set_option maxRecDepth 20000 in
def k_X1_has : List az_I := [
  (0, 1, .iload_n 1, []), (1, 3, .ifCond .lt 15, []), (4, 1, .iload_n 1, []), (5, 1, .aload_n 0, []), (6, 3, .getfield 27, [2, 2]), (9, 3, .if_icmp .ge 7, []),
  (12, 1, .iconst 1, []), (13, 3, .goto 4, []), (16, 1, .iconst 0, []), (17, 1, .ireturn, [])]
set_option maxRecDepth 20000 in
def k_X1_columnOf : List az_I := [
  (0, 1, .aload_n 0, []), (1, 3, .getfield 18, [2, 0]), (4, 3, .ifCond .le 12, []), (7, 1, .iload_n 1, []), (8, 1, .aload_n 0, []), (9, 3, .getfield 18, [2, 0]),
  (12, 1, .irem, []), (13, 3, .goto 4, []), (16, 1, .iconst 0, []), (17, 1, .ireturn, [])]
set_option maxRecDepth 20000 in
def k_X1_rowOf : List az_I := [
  (0, 1, .aload_n 0, []), (1, 3, .getfield 18, [2, 0]), (4, 3, .ifCond .le 12, []), (7, 1, .iload_n 1, []), (8, 1, .aload_n 0, []), (9, 3, .getfield 18, [2, 0]),
  (12, 1, .idiv, []), (13, 3, .goto 4, []), (16, 1, .iconst 0, []), (17, 1, .ireturn, [])]
set_option maxRecDepth 20000 in
def k_X1_cellAt : List az_I := [
  (0, 1, .iload_n 1, []), (1, 3, .ifCond .lt 34, []), (4, 1, .iload_n 1, []), (5, 1, .aload_n 0, []), (6, 3, .getfield 18, [2, 0]), (9, 3, .if_icmp .ge 26, []),
  (12, 1, .iload_n 2, []), (13, 3, .ifCond .lt 22, []), (16, 1, .iload_n 2, []), (17, 1, .aload_n 0, []), (18, 3, .getfield 24, [2, 1]), (21, 3, .if_icmp .ge 14, []),
  (24, 1, .iload_n 2, []), (25, 1, .aload_n 0, []), (26, 3, .getfield 18, [2, 0]), (29, 1, .imul, []), (30, 1, .iload_n 1, []), (31, 1, .iadd, []),
  (32, 3, .goto 4, []), (35, 1, .iconst (-1), []), (36, 1, .ireturn, [])]
set_option maxRecDepth 20000 in
def k_X1_stepsBetween : List az_I := [
  (0, 1, .aload_n 0, []), (1, 1, .iload_n 1, []), (2, 3, .invokevirtual 30, [0, 6, 2, 2]), (5, 1, .aload_n 0, []), (6, 1, .iload_n 2, []), (7, 3, .invokevirtual 30, [0, 6, 2, 2]),
  (10, 1, .isub, []), (11, 3, .invokestatic 34, [0, 254, 1, 999]), (14, 1, .aload_n 0, []), (15, 1, .iload_n 1, []), (16, 3, .invokevirtual 37, [0, 7, 2, 2]), (19, 1, .aload_n 0, []),
  (20, 1, .iload_n 2, []), (21, 3, .invokevirtual 37, [0, 7, 2, 2]), (24, 1, .isub, []), (25, 3, .invokestatic 34, [0, 254, 1, 999]), (28, 1, .iadd, []), (29, 1, .ireturn, [])]
set_option maxRecDepth 20000 in
def k_X2_init : List az_I := [
  (0, 1, .aload_n 0, []), (1, 3, .invokespecial 3, [1, 2, 3]), (4, 1, .aload_n 0, []), (5, 1, .aload_n 1, []), (6, 3, .putfield 9, [3, 0]), (9, 1, .aload_n 0, []),
  (10, 1, .aload_n 2, []), (11, 3, .putfield 15, [3, 1]), (14, 1, .return_, [])]
set_option maxRecDepth 20000 in
def k_X2_parseInto : List az_I := [
  (0, 1, .aload_n 0, []), (1, 1, .aload_n 1, []), (2, 3, .putfield 15, [3, 1]), (5, 1, .aload_n 0, []), (6, 3, .getfield 15, [3, 1]), (9, 3, .invokevirtual 19, [0, 76, 1, 10]),
  (12, 1, .aload_n 0, []), (13, 3, .getfield 9, [3, 0]), (16, 3, .invokevirtual 24, [0, 59, 1, 9]), (19, 1, .aload_n 0, []), (20, 1, .iconst 0, []), (21, 3, .putfield 29, [3, 2]),
  (24, 1, .aload_n 0, []), (25, 1, .aload_n 0, []), (26, 3, .getfield 9, [3, 0]), (29, 1, .iconst 0, []), (30, 3, .invokevirtual 33, [0, 60, 2, 9]), (33, 3, .putfield 37, [3, 3]),
  (36, 1, .aload_n 0, []), (37, 1, .iconst 0, []), (38, 3, .putfield 40, [3, 4]), (41, 1, .aload_n 0, []), (42, 1, .iconst (-1), []), (43, 3, .putfield 43, [3, 5]),
  (46, 1, .iconst 0, []), (47, 1, .istore_n 2, []), (48, 1, .iload_n 2, []), (49, 2, .bipush 20, []), (51, 3, .if_icmp .gt 27, []), (54, 1, .aload_n 0, []),
  (55, 3, .getfield 37, [3, 3]), (58, 3, .ifCond .eq 20, []), (61, 1, .aload_n 0, []), (62, 3, .getfield 40, [3, 4]), (65, 3, .ifCond .ne 13, []), (68, 1, .aload_n 0, []),
  (69, 3, .invokevirtual 46, [0, 16, 1, 3]), (72, 3, .iinc 2 1, []), (75, 3, .goto (-27), []), (78, 1, .aload_n 0, []), (79, 3, .getfield 40, [3, 4]), (82, 3, .ifCond .eq 18, []),
  (85, 1, .aload_n 0, []), (86, 1, .aload_n 0, []), (87, 3, .getfield 9, [3, 0]), (90, 1, .aload_n 0, []), (91, 3, .getfield 29, [3, 2]), (94, 3, .invokevirtual 49, [0, 61, 2, 9]),
  (97, 3, .putfield 43, [3, 5]), (100, 1, .aload_n 0, []), (101, 3, .getfield 40, [3, 4]), (104, 3, .ifCond .ne 7, []), (107, 1, .iconst 1, []), (108, 3, .goto 4, []),
  (111, 1, .iconst 0, []), (112, 1, .ireturn, [])]
set_option maxRecDepth 20000 in
def k_X2_fail : List az_I := [
  (0, 1, .aload_n 0, []), (1, 3, .getfield 40, [3, 4]), (4, 3, .ifCond .ne 13, []), (7, 1, .aload_n 0, []), (8, 1, .iload_n 1, []), (9, 3, .putfield 40, [3, 4]),
  (12, 1, .aload_n 0, []), (13, 1, .iconst 1, []), (14, 3, .putfield 37, [3, 3]), (17, 1, .return_, [])]
set_option maxRecDepth 20000 in
def k_X2_advance : List az_I := [
  (0, 1, .aload_n 0, []), (1, 1, .dup, []), (2, 3, .getfield 29, [3, 2]), (5, 1, .iconst 1, []), (6, 1, .iadd, []), (7, 3, .putfield 29, [3, 2]),
  (10, 1, .aload_n 0, []), (11, 1, .aload_n 0, []), (12, 3, .getfield 9, [3, 0]), (15, 1, .aload_n 0, []), (16, 3, .getfield 29, [3, 2]), (19, 3, .invokevirtual 33, [0, 60, 2, 9]),
  (22, 3, .putfield 37, [3, 3]), (25, 1, .return_, [])]
set_option maxRecDepth 20000 in
def k_X2_pass : List az_I := [
  (0, 1, .aload_n 0, []), (1, 3, .getfield 37, [3, 3]), (4, 1, .iload_n 1, []), (5, 3, .if_icmp .ne 10, []), (8, 1, .aload_n 0, []), (9, 3, .invokevirtual 52, [0, 13, 1, 3]),
  (12, 3, .goto 8, []), (15, 1, .aload_n 0, []), (16, 1, .iconst 1, []), (17, 3, .invokevirtual 55, [0, 12, 2, 3]), (20, 1, .return_, [])]
set_option maxRecDepth 20000 in
def k_X2_open : List az_I := [
  (0, 1, .aload_n 0, []), (1, 3, .getfield 37, [3, 3]), (4, 1, .iload_n 1, []), (5, 3, .if_icmp .ne 15, []), (8, 1, .iload_n 2, []), (9, 2, .bipush 10, []),
  (11, 3, .if_icmp .ge 9, []), (14, 1, .aload_n 0, []), (15, 3, .invokevirtual 52, [0, 13, 1, 3]), (18, 1, .iconst 1, []), (19, 1, .ireturn, []), (20, 1, .aload_n 0, []),
  (21, 1, .aload_n 0, []), (22, 3, .getfield 37, [3, 3]), (25, 1, .iload_n 1, []), (26, 3, .if_icmp .ne 7, []), (29, 1, .iconst 3, []), (30, 3, .goto 4, []),
  (33, 1, .iconst 1, []), (34, 3, .invokevirtual 55, [0, 12, 2, 3]), (37, 1, .iconst 0, []), (38, 1, .ireturn, [])]
set_option maxRecDepth 20000 in
def k_X2_rule : List az_I := [
  (0, 1, .aload_n 0, []), (1, 3, .getfield 37, [3, 3]), (4, 1, .iconst 4, []), (5, 3, .if_icmp .eq 17, []), (8, 1, .aload_n 0, []), (9, 3, .getfield 37, [3, 3]),
  (12, 1, .iconst 5, []), (13, 3, .if_icmp .eq 9, []), (16, 1, .aload_n 0, []), (17, 1, .iconst 1, []), (18, 3, .invokevirtual 55, [0, 12, 2, 3]), (21, 1, .return_, []),
  (22, 1, .aload_n 0, []), (23, 3, .getfield 15, [3, 1]), (26, 3, .getfield 59, [10, 6]), (29, 2, .bipush 20, []), (31, 3, .if_icmp .lt 9, []), (34, 1, .aload_n 0, []),
  (35, 1, .iconst 4, []), (36, 3, .invokevirtual 55, [0, 12, 2, 3]), (39, 1, .return_, []), (40, 1, .aload_n 0, []), (41, 3, .getfield 37, [3, 3]), (44, 1, .iconst 4, []),
  (45, 3, .if_icmp .ne 12, []), (48, 1, .aload_n 0, []), (49, 3, .invokevirtual 52, [0, 13, 1, 3]), (52, 1, .aload_n 0, []), (53, 1, .iconst 0, []), (54, 3, .invokevirtual 62, [0, 17, 2, 3]),
  (57, 1, .aload_n 0, []), (58, 3, .getfield 15, [3, 1]), (61, 3, .invokevirtual 65, [0, 78, 1, 10]), (64, 1, .aload_n 0, []), (65, 1, .iconst 5, []), (66, 3, .invokevirtual 68, [0, 14, 2, 3]),
  (69, 1, .aload_n 0, []), (70, 1, .iconst 0, []), (71, 3, .invokevirtual 71, [0, 20, 2, 3]), (74, 1, .aload_n 0, []), (75, 2, .bipush 26, []), (77, 3, .invokevirtual 68, [0, 14, 2, 3]),
  (80, 1, .aload_n 0, []), (81, 3, .getfield 15, [3, 1]), (84, 3, .invokevirtual 74, [0, 79, 1, 10]), (87, 1, .return_, [])]
set_option maxRecDepth 20000 in
def k_X2_either : List az_I := [
  (0, 1, .aload_n 0, []), (1, 1, .iload_n 1, []), (2, 3, .invokevirtual 77, [0, 18, 2, 3]), (5, 1, .iconst 0, []), (6, 1, .istore_n 2, []), (7, 1, .iload_n 2, []),
  (8, 3, .sipush 400, []), (11, 3, .if_icmp .ge 37, []), (14, 1, .aload_n 0, []), (15, 3, .getfield 37, [3, 3]), (18, 2, .bipush 6, []), (20, 3, .if_icmp .ne 28, []),
  (23, 1, .aload_n 0, []), (24, 3, .invokevirtual 52, [0, 13, 1, 3]), (27, 1, .aload_n 0, []), (28, 1, .iload_n 1, []), (29, 3, .invokevirtual 77, [0, 18, 2, 3]), (32, 1, .aload_n 0, []),
  (33, 3, .getfield 15, [3, 1]), (36, 2, .bipush 6, []), (38, 1, .iconst 0, []), (39, 3, .invokevirtual 80, [0, 77, 3, 10]), (42, 3, .iinc 2 1, []), (45, 3, .goto (-38), []),
  (48, 1, .return_, [])]
set_option maxRecDepth 20000 in
def k_X2_both : List az_I := [
  (0, 1, .aload_n 0, []), (1, 1, .iload_n 1, []), (2, 3, .invokevirtual 84, [0, 19, 2, 3]), (5, 1, .iconst 0, []), (6, 1, .istore_n 2, []), (7, 1, .iload_n 2, []),
  (8, 3, .sipush 400, []), (11, 3, .if_icmp .ge 37, []), (14, 1, .aload_n 0, []), (15, 3, .getfield 37, [3, 3]), (18, 2, .bipush 7, []), (20, 3, .if_icmp .ne 28, []),
  (23, 1, .aload_n 0, []), (24, 3, .invokevirtual 52, [0, 13, 1, 3]), (27, 1, .aload_n 0, []), (28, 1, .iload_n 1, []), (29, 3, .invokevirtual 84, [0, 19, 2, 3]), (32, 1, .aload_n 0, []),
  (33, 3, .getfield 15, [3, 1]), (36, 2, .bipush 7, []), (38, 1, .iconst 0, []), (39, 3, .invokevirtual 80, [0, 77, 3, 10]), (42, 3, .iinc 2 1, []), (45, 3, .goto (-38), []),
  (48, 1, .return_, [])]
set_option maxRecDepth 20000 in
def k_X2_ask : List az_I := [
  (0, 1, .aload_n 0, []), (1, 3, .getfield 37, [3, 3]), (4, 2, .bipush 8, []), (6, 3, .if_icmp .ne 33, []), (9, 1, .aload_n 0, []), (10, 2, .bipush 8, []),
  (12, 1, .iload_n 1, []), (13, 3, .invokevirtual 87, [0, 15, 3, 3]), (16, 3, .ifCond .eq 106, []), (19, 1, .aload_n 0, []), (20, 1, .iload_n 1, []), (21, 1, .iconst 1, []),
  (22, 1, .iadd, []), (23, 3, .invokevirtual 84, [0, 19, 2, 3]), (26, 1, .aload_n 0, []), (27, 3, .getfield 15, [3, 1]), (30, 2, .bipush 8, []), (32, 1, .iconst 0, []),
  (33, 3, .invokevirtual 80, [0, 77, 3, 10]), (36, 3, .goto 86, []), (39, 1, .aload_n 0, []), (40, 3, .getfield 37, [3, 3]), (43, 2, .bipush 23, []), (45, 3, .if_icmp .ne 29, []),
  (48, 1, .aload_n 0, []), (49, 2, .bipush 23, []), (51, 1, .iload_n 1, []), (52, 3, .invokevirtual 87, [0, 15, 3, 3]), (55, 3, .ifCond .eq 67, []), (58, 1, .aload_n 0, []),
  (59, 1, .iload_n 1, []), (60, 1, .iconst 1, []), (61, 1, .iadd, []), (62, 3, .invokevirtual 62, [0, 17, 2, 3]), (65, 1, .aload_n 0, []), (66, 2, .bipush 24, []),
  (68, 3, .invokevirtual 68, [0, 14, 2, 3]), (71, 3, .goto 51, []), (74, 1, .aload_n 0, []), (75, 1, .iload_n 1, []), (76, 3, .invokevirtual 71, [0, 20, 2, 3]), (79, 1, .aload_n 0, []),
  (80, 3, .getfield 37, [3, 3]), (83, 1, .istore_n 2, []), (84, 1, .iload_n 2, []), (85, 2, .bipush 11, []), (87, 3, .if_icmp .lt 30, []), (90, 1, .iload_n 2, []),
  (91, 2, .bipush 16, []), (93, 3, .if_icmp .gt 24, []), (96, 1, .aload_n 0, []), (97, 3, .invokevirtual 52, [0, 13, 1, 3]), (100, 1, .aload_n 0, []), (101, 1, .iload_n 1, []),
  (102, 3, .invokevirtual 71, [0, 20, 2, 3]), (105, 1, .aload_n 0, []), (106, 3, .getfield 15, [3, 1]), (109, 1, .iload_n 2, []), (110, 1, .iconst 0, []), (111, 3, .invokevirtual 80, [0, 77, 3, 10]),
  (114, 3, .goto 8, []), (117, 1, .aload_n 0, []), (118, 1, .iconst 1, []), (119, 3, .invokevirtual 55, [0, 12, 2, 3]), (122, 1, .return_, [])]
set_option maxRecDepth 20000 in
def k_X2_sum : List az_I := [
  (0, 1, .aload_n 0, []), (1, 1, .iload_n 1, []), (2, 3, .invokevirtual 91, [0, 21, 2, 3]), (5, 1, .iconst 0, []), (6, 1, .istore_n 2, []), (7, 1, .iload_n 2, []),
  (8, 3, .sipush 400, []), (11, 3, .if_icmp .ge 50, []), (14, 1, .aload_n 0, []), (15, 3, .getfield 37, [3, 3]), (18, 2, .bipush 17, []), (20, 3, .if_icmp .eq 12, []),
  (23, 1, .aload_n 0, []), (24, 3, .getfield 37, [3, 3]), (27, 2, .bipush 18, []), (29, 3, .if_icmp .ne 32, []), (32, 1, .aload_n 0, []), (33, 3, .getfield 37, [3, 3]),
  (36, 1, .istore_n 3, []), (37, 1, .aload_n 0, []), (38, 3, .invokevirtual 52, [0, 13, 1, 3]), (41, 1, .aload_n 0, []), (42, 1, .iload_n 1, []), (43, 3, .invokevirtual 91, [0, 21, 2, 3]),
  (46, 1, .aload_n 0, []), (47, 3, .getfield 15, [3, 1]), (50, 1, .iload_n 3, []), (51, 1, .iconst 0, []), (52, 3, .invokevirtual 80, [0, 77, 3, 10]), (55, 3, .iinc 2 1, []),
  (58, 3, .goto (-51), []), (61, 1, .return_, [])]
set_option maxRecDepth 20000 in
def k_X2_product : List az_I := [
  (0, 1, .aload_n 0, []), (1, 1, .iload_n 1, []), (2, 3, .invokevirtual 94, [0, 22, 2, 3]), (5, 1, .iconst 0, []), (6, 1, .istore_n 2, []), (7, 1, .iload_n 2, []),
  (8, 3, .sipush 400, []), (11, 3, .if_icmp .ge 50, []), (14, 1, .aload_n 0, []), (15, 3, .getfield 37, [3, 3]), (18, 2, .bipush 19, []), (20, 3, .if_icmp .eq 12, []),
  (23, 1, .aload_n 0, []), (24, 3, .getfield 37, [3, 3]), (27, 2, .bipush 20, []), (29, 3, .if_icmp .ne 32, []), (32, 1, .aload_n 0, []), (33, 3, .getfield 37, [3, 3]),
  (36, 1, .istore_n 3, []), (37, 1, .aload_n 0, []), (38, 3, .invokevirtual 52, [0, 13, 1, 3]), (41, 1, .aload_n 0, []), (42, 1, .iload_n 1, []), (43, 3, .invokevirtual 94, [0, 22, 2, 3]),
  (46, 1, .aload_n 0, []), (47, 3, .getfield 15, [3, 1]), (50, 1, .iload_n 3, []), (51, 1, .iconst 0, []), (52, 3, .invokevirtual 80, [0, 77, 3, 10]), (55, 3, .iinc 2 1, []),
  (58, 3, .goto (-51), []), (61, 1, .return_, [])]
set_option maxRecDepth 20000 in
def k_X2_one : List az_I := [
  (0, 1, .aload_n 0, []), (1, 3, .getfield 37, [3, 3]), (4, 1, .istore_n 2, []), (5, 1, .iload_n 2, []), (6, 94, .tableswitch 209 2 21 #[94, 94, 209, 209, 209, 209, 209, 157, 157, 209, 209, 209, 209, 209, 209, 209, 127, 209, 209, 101], []), (100, 1, .aload_n 0, []),
  (101, 3, .invokevirtual 97, [0, 23, 1, 3]), (104, 3, .goto 116, []), (107, 1, .aload_n 0, []), (108, 2, .bipush 21, []), (110, 1, .iload_n 1, []), (111, 3, .invokevirtual 87, [0, 15, 3, 3]),
  (114, 3, .ifCond .eq 106, []), (117, 1, .aload_n 0, []), (118, 1, .iload_n 1, []), (119, 1, .iconst 1, []), (120, 1, .iadd, []), (121, 3, .invokevirtual 71, [0, 20, 2, 3]),
  (124, 1, .aload_n 0, []), (125, 2, .bipush 22, []), (127, 3, .invokevirtual 68, [0, 14, 2, 3]), (130, 3, .goto 90, []), (133, 1, .aload_n 0, []), (134, 2, .bipush 18, []),
  (136, 1, .iload_n 1, []), (137, 3, .invokevirtual 87, [0, 15, 3, 3]), (140, 3, .ifCond .eq 80, []), (143, 1, .aload_n 0, []), (144, 1, .iload_n 1, []), (145, 1, .iconst 1, []),
  (146, 1, .iadd, []), (147, 3, .invokevirtual 94, [0, 22, 2, 3]), (150, 1, .aload_n 0, []), (151, 3, .getfield 15, [3, 1]), (154, 2, .bipush 27, []), (156, 1, .iconst 0, []),
  (157, 3, .invokevirtual 80, [0, 77, 3, 10]), (160, 3, .goto 60, []), (163, 1, .aload_n 0, []), (164, 3, .invokevirtual 52, [0, 13, 1, 3]), (167, 1, .aload_n 0, []), (168, 2, .bipush 21, []),
  (170, 1, .iload_n 1, []), (171, 3, .invokevirtual 87, [0, 15, 3, 3]), (174, 3, .ifCond .eq 46, []), (177, 1, .aload_n 0, []), (178, 1, .iload_n 1, []), (179, 1, .iconst 1, []),
  (180, 1, .iadd, []), (181, 3, .invokevirtual 71, [0, 20, 2, 3]), (184, 1, .aload_n 0, []), (185, 2, .bipush 25, []), (187, 3, .invokevirtual 68, [0, 14, 2, 3]), (190, 1, .aload_n 0, []),
  (191, 1, .iload_n 1, []), (192, 1, .iconst 1, []), (193, 1, .iadd, []), (194, 3, .invokevirtual 71, [0, 20, 2, 3]), (197, 1, .aload_n 0, []), (198, 2, .bipush 22, []),
  (200, 3, .invokevirtual 68, [0, 14, 2, 3]), (203, 1, .aload_n 0, []), (204, 3, .getfield 15, [3, 1]), (207, 1, .iload_n 2, []), (208, 1, .iconst 0, []), (209, 3, .invokevirtual 80, [0, 77, 3, 10]),
  (212, 3, .goto 8, []), (215, 1, .aload_n 0, []), (216, 1, .iconst 1, []), (217, 3, .invokevirtual 55, [0, 12, 2, 3]), (220, 1, .return_, [])]
set_option maxRecDepth 20000 in
def k_X2_value : List az_I := [
  (0, 1, .aload_n 0, []), (1, 3, .getfield 9, [3, 0]), (4, 1, .aload_n 0, []), (5, 3, .getfield 29, [3, 2]), (8, 3, .invokevirtual 100, [0, 62, 2, 9]), (11, 1, .istore_n 1, []),
  (12, 1, .aload_n 0, []), (13, 3, .getfield 37, [3, 3]), (16, 1, .iconst 2, []), (17, 3, .if_icmp .ne 17, []), (20, 1, .iload_n 1, []), (21, 2, .ldc 103, [0, 100000]),
  (23, 3, .if_icmp .le 11, []), (26, 1, .aload_n 0, []), (27, 1, .iconst 2, []), (28, 3, .invokevirtual 55, [0, 12, 2, 3]), (31, 3, .goto 19, []), (34, 1, .aload_n 0, []),
  (35, 3, .getfield 15, [3, 1]), (38, 1, .aload_n 0, []), (39, 3, .getfield 37, [3, 3]), (42, 1, .iload_n 1, []), (43, 3, .invokevirtual 80, [0, 77, 3, 10]), (46, 1, .aload_n 0, []),
  (47, 3, .invokevirtual 52, [0, 13, 1, 3]), (50, 1, .return_, [])]
set_option maxRecDepth 20000 in
def k_X3_init : List az_I := [
  (0, 1, .aload_n 0, []), (1, 3, .invokespecial 3, [1, 2, 3]), (4, 1, .aload_n 0, []), (5, 1, .iconst (-1), []), (6, 3, .putfield 9, [4, 0]), (9, 1, .aload_n 0, []),
  (10, 1, .iconst (-1), []), (11, 3, .putfield 15, [4, 1]), (14, 1, .return_, [])]
set_option maxRecDepth 20000 in
def k_X3_wasDead : List az_I := [
  (0, 1, .aload_n 0, []), (1, 3, .getfield 9, [4, 0]), (4, 1, .iconst (-1), []), (5, 3, .if_icmp .eq 23, []), (8, 1, .aload_n 0, []), (9, 3, .getfield 9, [4, 0]),
  (12, 1, .iload_n 1, []), (13, 3, .if_icmp .gt 15, []), (16, 1, .aload_n 0, []), (17, 3, .getfield 15, [4, 1]), (20, 1, .iload_n 2, []), (21, 3, .if_icmp .gt 7, []),
  (24, 1, .iconst 1, []), (25, 3, .goto 4, []), (28, 1, .iconst 0, []), (29, 1, .ireturn, [])]
set_option maxRecDepth 20000 in
def k_X4_init : List az_I := [
  (0, 1, .aload_n 0, []), (1, 3, .invokespecial 3, [1, 2, 3]), (4, 1, .aload_n 0, []), (5, 2, .bipush 12, []), (7, 2, .newarray .int, []), (9, 3, .putfield 9, [5, 2]),
  (12, 1, .aload_n 0, []), (13, 3, .ldc2_w 15, [18446744073709551615]), (16, 3, .putfield 17, [5, 8]), (19, 1, .aload_n 0, []), (20, 1, .aload_n 1, []), (21, 3, .putfield 21, [5, 0]),
  (24, 1, .aload_n 0, []), (25, 2, .bipush 12, []), (27, 1, .aload_n 1, []), (28, 3, .getfield 25, [2, 2]), (31, 1, .imul, []), (32, 2, .newarray .int, []),
  (34, 3, .putfield 31, [5, 1]), (37, 1, .aload_n 0, []), (38, 1, .aload_n 1, []), (39, 3, .getfield 25, [2, 2]), (42, 2, .newarray .int, []), (44, 3, .putfield 34, [5, 3]),
  (47, 1, .aload_n 0, []), (48, 1, .aload_n 1, []), (49, 3, .getfield 25, [2, 2]), (52, 2, .newarray .int, []), (54, 3, .putfield 37, [5, 4]), (57, 1, .aload_n 0, []),
  (58, 1, .aload_n 1, []), (59, 3, .getfield 25, [2, 2]), (62, 2, .newarray .long, []), (64, 3, .putfield 40, [5, 5]), (67, 1, .aload_n 0, []), (68, 1, .aload_n 1, []),
  (69, 3, .getfield 25, [2, 2]), (72, 2, .newarray .long, []), (74, 3, .putfield 44, [5, 6]), (77, 1, .return_, [])]
set_option maxRecDepth 20000 in
def k_X4_startFromBehind : List az_I := [
  (0, 1, .aload_n 0, []), (1, 3, .getfield 34, [5, 3]), (4, 1, .iconst (-1), []), (5, 3, .invokestatic 47, [0, 275, 2, 999]), (8, 1, .iload_n 1, []), (9, 3, .ifCond .lt 26, []),
  (12, 1, .iload_n 1, []), (13, 1, .aload_n 0, []), (14, 3, .getfield 34, [5, 3]), (17, 1, .arraylength, []), (18, 3, .if_icmp .ge 17, []), (21, 1, .aload_n 0, []),
  (22, 3, .getfield 34, [5, 3]), (25, 1, .iload_n 1, []), (26, 1, .iconst 0, []), (27, 1, .iastore, []), (28, 1, .aload_n 0, []), (29, 3, .getfield 40, [5, 5]),
  (32, 1, .iload_n 1, []), (33, 1, .lconst 0, []), (34, 1, .lastore, []), (35, 1, .return_, [])]
set_option maxRecDepth 20000 in
def k_X4_goBackAnHour : List az_I := [
  (0, 1, .aload_n 0, []), (1, 3, .getfield 37, [5, 4]), (4, 1, .astore_n 1, []), (5, 1, .aload_n 0, []), (6, 1, .aload_n 0, []), (7, 3, .getfield 34, [5, 3]),
  (10, 3, .putfield 37, [5, 4]), (13, 1, .aload_n 0, []), (14, 1, .aload_n 1, []), (15, 3, .putfield 34, [5, 3]), (18, 1, .aload_n 0, []), (19, 3, .getfield 44, [5, 6]),
  (22, 1, .astore_n 2, []), (23, 1, .aload_n 0, []), (24, 1, .aload_n 0, []), (25, 3, .getfield 40, [5, 5]), (28, 3, .putfield 44, [5, 6]), (31, 1, .aload_n 0, []),
  (32, 1, .aload_n 2, []), (33, 3, .putfield 40, [5, 5]), (36, 1, .aload_n 0, []), (37, 3, .getfield 34, [5, 3]), (40, 1, .iconst (-1), []), (41, 3, .invokestatic 47, [0, 275, 2, 999]),
  (44, 1, .return_, [])]
set_option maxRecDepth 20000 in
def k_X4_leadsOn : List az_I := [
  (0, 1, .iload_n 1, []), (1, 3, .ifCond .lt 26, []), (4, 1, .iload_n 1, []), (5, 1, .aload_n 0, []), (6, 3, .getfield 37, [5, 4]), (9, 1, .arraylength, []),
  (10, 3, .if_icmp .ge 17, []), (13, 1, .aload_n 0, []), (14, 3, .getfield 37, [5, 4]), (17, 1, .iload_n 1, []), (18, 1, .iaload, []), (19, 1, .iconst (-1), []),
  (20, 3, .if_icmp .eq 7, []), (23, 1, .iconst 1, []), (24, 3, .goto 4, []), (27, 1, .iconst 0, []), (28, 1, .ireturn, [])]
set_option maxRecDepth 20000 in
def k_X4_bestNext : List az_I := [
  (0, 1, .aload_n 0, []), (1, 3, .getfield 21, [5, 0]), (4, 1, .iload_n 1, []), (5, 3, .invokevirtual 53, [0, 6, 2, 2]), (8, 1, .istore_n 2, []), (9, 1, .aload_n 0, []),
  (10, 3, .getfield 21, [5, 0]), (13, 1, .iload_n 1, []), (14, 3, .invokevirtual 57, [0, 7, 2, 2]), (17, 1, .istore_n 3, []), (18, 1, .iconst (-1), []), (19, 2, .istore 4, []),
  (21, 1, .iconst 0, []), (22, 2, .istore 5, []), (24, 2, .iload 5, []), (26, 3, .getstatic 60, [1, 2]), (29, 1, .arraylength, []), (30, 3, .if_icmp .ge 73, []),
  (33, 2, .iload 5, []), (35, 3, .getstatic 63, [2, 2]), (38, 1, .arraylength, []), (39, 3, .if_icmp .ge 64, []), (42, 1, .aload_n 0, []), (43, 3, .getfield 21, [5, 0]),
  (46, 1, .iload_n 2, []), (47, 3, .getstatic 60, [1, 2]), (50, 2, .iload 5, []), (52, 1, .iaload, []), (53, 1, .iadd, []), (54, 1, .iload_n 3, []),
  (55, 3, .getstatic 63, [2, 2]), (58, 2, .iload 5, []), (60, 1, .iaload, []), (61, 1, .iadd, []), (62, 3, .invokevirtual 66, [0, 8, 3, 2]), (65, 2, .istore 6, []),
  (67, 1, .aload_n 0, []), (68, 2, .iload 6, []), (70, 3, .invokevirtual 70, [0, 29, 2, 5]), (73, 3, .ifCond .eq 24, []), (76, 2, .iload 4, []), (78, 1, .iconst (-1), []),
  (79, 3, .if_icmp .eq 14, []), (82, 1, .aload_n 0, []), (83, 2, .iload 6, []), (85, 2, .iload 4, []), (87, 3, .invokevirtual 74, [0, 31, 3, 5]), (90, 3, .ifCond .eq 7, []),
  (93, 2, .iload 6, []), (95, 2, .istore 4, []), (97, 3, .iinc 5 1, []), (100, 3, .goto (-76), []), (103, 2, .iload 4, []), (105, 1, .ireturn, [])]
set_option maxRecDepth 20000 in
def k_X4_isBetter : List az_I := [
  (0, 1, .aload_n 0, []), (1, 1, .iload_n 1, []), (2, 3, .invokevirtual 70, [0, 29, 2, 5]), (5, 3, .ifCond .eq 11, []), (8, 1, .aload_n 0, []), (9, 1, .iload_n 2, []),
  (10, 3, .invokevirtual 70, [0, 29, 2, 5]), (13, 3, .ifCond .ne 5, []), (16, 1, .iconst 0, []), (17, 1, .ireturn, []), (18, 1, .aload_n 0, []), (19, 3, .getfield 37, [5, 4]),
  (22, 1, .iload_n 1, []), (23, 1, .iaload, []), (24, 1, .aload_n 0, []), (25, 3, .getfield 37, [5, 4]), (28, 1, .iload_n 2, []), (29, 1, .iaload, []),
  (30, 3, .if_icmp .eq 24, []), (33, 1, .aload_n 0, []), (34, 3, .getfield 37, [5, 4]), (37, 1, .iload_n 1, []), (38, 1, .iaload, []), (39, 1, .aload_n 0, []),
  (40, 3, .getfield 37, [5, 4]), (43, 1, .iload_n 2, []), (44, 1, .iaload, []), (45, 3, .if_icmp .ge 7, []), (48, 1, .iconst 1, []), (49, 3, .goto 4, []),
  (52, 1, .iconst 0, []), (53, 1, .ireturn, []), (54, 1, .aload_n 0, []), (55, 3, .getfield 44, [5, 6]), (58, 1, .iload_n 1, []), (59, 1, .laload, []),
  (60, 1, .aload_n 0, []), (61, 3, .getfield 44, [5, 6]), (64, 1, .iload_n 2, []), (65, 1, .laload, []), (66, 1, .lcmp, []), (67, 3, .ifCond .ge 7, []),
  (70, 1, .iconst 1, []), (71, 3, .goto 4, []), (74, 1, .iconst 0, []), (75, 1, .ireturn, [])]
set_option maxRecDepth 20000 in
def k_X4_lead : List az_I := [
  (0, 1, .iload_n 1, []), (1, 1, .aload_n 0, []), (2, 3, .getfield 21, [5, 0]), (5, 3, .getfield 25, [2, 2]), (8, 1, .imul, []), (9, 1, .iload_n 2, []),
  (10, 1, .iadd, []), (11, 2, .istore 7, []), (13, 1, .iload_n 2, []), (14, 3, .ifCond .lt 35, []), (17, 1, .iload_n 2, []), (18, 1, .aload_n 0, []),
  (19, 3, .getfield 34, [5, 3]), (22, 1, .arraylength, []), (23, 3, .if_icmp .ge 26, []), (26, 2, .iload 7, []), (28, 3, .ifCond .lt 21, []), (31, 2, .iload 7, []),
  (33, 1, .aload_n 0, []), (34, 3, .getfield 31, [5, 1]), (37, 1, .arraylength, []), (38, 3, .if_icmp .ge 11, []), (41, 1, .aload_n 0, []), (42, 1, .iload_n 3, []),
  (43, 3, .invokevirtual 70, [0, 29, 2, 5]), (46, 3, .ifCond .ne 4, []), (49, 1, .return_, []), (50, 1, .aload_n 0, []), (51, 3, .getfield 31, [5, 1]), (54, 2, .iload 7, []),
  (56, 1, .iload_n 3, []), (57, 1, .iastore, []), (58, 1, .aload_n 0, []), (59, 3, .getfield 34, [5, 3]), (62, 1, .iload_n 2, []), (63, 1, .aload_n 0, []),
  (64, 3, .getfield 37, [5, 4]), (67, 1, .iload_n 3, []), (68, 1, .iaload, []), (69, 2, .iload 4, []), (71, 1, .iadd, []), (72, 1, .iastore, []),
  (73, 1, .aload_n 0, []), (74, 3, .getfield 40, [5, 5]), (77, 1, .iload_n 2, []), (78, 1, .aload_n 0, []), (79, 3, .getfield 44, [5, 6]), (82, 1, .iload_n 3, []),
  (83, 1, .laload, []), (84, 2, .lload 5, []), (86, 1, .ladd, []), (87, 1, .lastore, []), (88, 1, .return_, [])]
set_option maxRecDepth 20000 in
def k_X4_follow : List az_I := [
  (0, 1, .iload_n 1, []), (1, 3, .ifCond .lt 22, []), (4, 1, .iload_n 1, []), (5, 1, .aload_n 0, []), (6, 3, .getfield 34, [5, 3]), (9, 1, .arraylength, []),
  (10, 3, .if_icmp .ge 13, []), (13, 1, .aload_n 0, []), (14, 3, .getfield 34, [5, 3]), (17, 1, .iload_n 1, []), (18, 1, .iaload, []), (19, 1, .iconst (-1), []),
  (20, 3, .if_icmp .ne 5, []), (23, 1, .iconst (-1), []), (24, 1, .ireturn, []), (25, 1, .aload_n 0, []), (26, 1, .iconst 0, []), (27, 3, .putfield 78, [5, 7]),
  (30, 1, .aload_n 0, []), (31, 1, .aload_n 0, []), (32, 3, .getfield 40, [5, 5]), (35, 1, .iload_n 1, []), (36, 1, .laload, []), (37, 3, .putfield 17, [5, 8]),
  (40, 1, .iload_n 1, []), (41, 2, .istore 4, []), (43, 1, .iload_n 2, []), (44, 2, .istore 5, []), (46, 2, .iload 5, []), (48, 1, .iload_n 3, []),
  (49, 3, .if_icmp .gt 85, []), (52, 1, .aload_n 0, []), (53, 3, .getfield 78, [5, 7]), (56, 1, .aload_n 0, []), (57, 3, .getfield 9, [5, 2]), (60, 1, .arraylength, []),
  (61, 3, .if_icmp .ge 73, []), (64, 1, .aload_n 0, []), (65, 3, .getfield 9, [5, 2]), (68, 1, .aload_n 0, []), (69, 3, .getfield 78, [5, 7]), (72, 2, .iload 4, []),
  (74, 1, .iastore, []), (75, 1, .aload_n 0, []), (76, 1, .dup, []), (77, 3, .getfield 78, [5, 7]), (80, 1, .iconst 1, []), (81, 1, .iadd, []),
  (82, 3, .putfield 78, [5, 7]), (85, 2, .iload 5, []), (87, 1, .aload_n 0, []), (88, 3, .getfield 21, [5, 0]), (91, 3, .getfield 25, [2, 2]), (94, 1, .imul, []),
  (95, 2, .iload 4, []), (97, 1, .iadd, []), (98, 2, .istore 6, []), (100, 2, .iload 6, []), (102, 3, .ifCond .lt 23, []), (105, 2, .iload 6, []),
  (107, 1, .aload_n 0, []), (108, 3, .getfield 31, [5, 1]), (111, 1, .arraylength, []), (112, 3, .if_icmp .ge 13, []), (115, 1, .aload_n 0, []), (116, 3, .getfield 31, [5, 1]),
  (119, 2, .iload 6, []), (121, 1, .iaload, []), (122, 3, .goto 4, []), (125, 1, .iconst (-1), []), (126, 2, .istore 4, []), (128, 3, .iinc 5 1, []),
  (131, 3, .goto (-85), []), (134, 1, .aload_n 0, []), (135, 3, .getfield 34, [5, 3]), (138, 1, .iload_n 1, []), (139, 1, .iaload, []), (140, 1, .ireturn, [])]
set_option maxRecDepth 20000 in
def k_X4_charges : List az_I := [
  (0, 1, .aload_n 0, []), (1, 3, .getfield 17, [5, 8]), (4, 1, .lreturn, [])]
set_option maxRecDepth 20000 in
def k_X4_cellOfPath : List az_I := [
  (0, 1, .iload_n 1, []), (1, 3, .ifCond .lt 29, []), (4, 1, .iload_n 1, []), (5, 1, .aload_n 0, []), (6, 3, .getfield 78, [5, 7]), (9, 3, .if_icmp .ge 21, []),
  (12, 1, .iload_n 1, []), (13, 1, .aload_n 0, []), (14, 3, .getfield 9, [5, 2]), (17, 1, .arraylength, []), (18, 3, .if_icmp .ge 12, []), (21, 1, .aload_n 0, []),
  (22, 3, .getfield 9, [5, 2]), (25, 1, .iload_n 1, []), (26, 1, .iaload, []), (27, 3, .goto 4, []), (30, 1, .iconst (-1), []), (31, 1, .ireturn, [])]
set_option maxRecDepth 20000 in
def k_X5_init : List az_I := [
  (0, 1, .aload_n 0, []), (1, 3, .invokespecial 3, [1, 2, 3]), (4, 1, .aload_n 0, []), (5, 2, .bipush 24, []), (7, 2, .newarray .int, []), (9, 3, .putfield 9, [6, 3]),
  (12, 1, .aload_n 0, []), (13, 1, .aload_n 1, []), (14, 3, .putfield 15, [6, 0]), (17, 1, .aload_n 0, []), (18, 1, .aload_n 2, []), (19, 3, .putfield 19, [6, 1]),
  (22, 1, .aload_n 0, []), (23, 1, .aload_n 3, []), (24, 3, .putfield 23, [6, 2]), (27, 1, .aload_n 0, []), (28, 1, .aload_n 1, []), (29, 3, .getfield 27, [2, 2]),
  (32, 2, .newarray .boolean, []), (34, 3, .putfield 33, [6, 4]), (37, 1, .aload_n 0, []), (38, 1, .aload_n 1, []), (39, 3, .getfield 27, [2, 2]), (42, 2, .newarray .int, []),
  (44, 3, .putfield 37, [6, 5]), (47, 1, .return_, [])]
set_option maxRecDepth 20000 in
def k_X5_lookAt : List az_I := [
  (0, 1, .aload_n 0, []), (1, 1, .iload_n 1, []), (2, 3, .putfield 40, [6, 6]), (5, 1, .iconst 0, []), (6, 1, .istore_n 3, []), (7, 1, .iload_n 3, []),
  (8, 1, .aload_n 0, []), (9, 3, .getfield 33, [6, 4]), (12, 1, .arraylength, []), (13, 3, .if_icmp .ge 16, []), (16, 1, .aload_n 0, []), (17, 3, .getfield 33, [6, 4]),
  (20, 1, .iload_n 3, []), (21, 1, .iconst 0, []), (22, 1, .bastore, []), (23, 3, .iinc 3 1, []), (26, 3, .goto (-19), []), (29, 1, .iconst 0, []),
  (30, 1, .istore_n 3, []), (31, 1, .iload_n 3, []), (32, 1, .aload_n 0, []), (33, 3, .getfield 23, [6, 2]), (36, 3, .invokevirtual 43, [0, 270, 1, 0]), (39, 3, .if_icmp .ge 86, []),
  (42, 1, .iload_n 3, []), (43, 1, .aload_n 0, []), (44, 3, .getfield 9, [6, 3]), (47, 1, .arraylength, []), (48, 3, .if_icmp .ge 77, []), (51, 1, .aload_n 0, []),
  (52, 3, .getfield 23, [6, 2]), (55, 1, .iload_n 3, []), (56, 3, .invokevirtual 48, [0, 272, 2, 0]), (59, 3, .checkcast 52, [11]), (62, 2, .astore 4, []), (64, 1, .aload_n 0, []),
  (65, 3, .getfield 9, [6, 3]), (68, 1, .iload_n 3, []), (69, 2, .aload 4, []), (71, 1, .iload_n 1, []), (72, 1, .iload_n 2, []), (73, 3, .invokevirtual 54, [0, 90, 3, 11]),
  (76, 1, .iastore, []), (77, 1, .aload_n 0, []), (78, 3, .getfield 9, [6, 3]), (81, 1, .iload_n 3, []), (82, 1, .iaload, []), (83, 1, .iconst (-1), []),
  (84, 3, .if_icmp .eq 35, []), (87, 2, .aload 4, []), (89, 3, .getfield 58, [11, 1]), (92, 3, .ifCond .lt 27, []), (95, 2, .aload 4, []), (97, 3, .getfield 58, [11, 1]),
  (100, 1, .aload_n 0, []), (101, 3, .getfield 33, [6, 4]), (104, 1, .arraylength, []), (105, 3, .if_icmp .ge 14, []), (108, 1, .aload_n 0, []), (109, 3, .getfield 33, [6, 4]),
  (112, 2, .aload 4, []), (114, 3, .getfield 58, [11, 1]), (117, 1, .iconst 1, []), (118, 1, .bastore, []), (119, 3, .iinc 3 1, []), (122, 3, .goto (-91), []),
  (125, 1, .return_, [])]
set_option maxRecDepth 20000 in
def k_X5_turnTo : List az_I := [
  (0, 1, .aload_n 0, []), (1, 3, .getfield 37, [6, 5]), (4, 1, .iconst 0, []), (5, 3, .invokestatic 61, [0, 275, 2, 999]), (8, 1, .aload_n 0, []), (9, 3, .getfield 19, [6, 1]),
  (12, 1, .aload_n 0, []), (13, 3, .getfield 40, [6, 6]), (16, 1, .iload_n 1, []), (17, 3, .invokevirtual 67, [0, 50, 3, 7]), (20, 3, .ifCond .eq 4, []), (23, 1, .return_, []),
  (24, 1, .aload_n 0, []), (25, 3, .getfield 19, [6, 1]), (28, 1, .aload_n 0, []), (29, 3, .getfield 40, [6, 6]), (32, 1, .iload_n 1, []), (33, 3, .invokevirtual 73, [0, 48, 3, 7]),
  (36, 1, .istore_n 2, []), (37, 1, .aload_n 0, []), (38, 3, .getfield 19, [6, 1]), (41, 1, .aload_n 0, []), (42, 3, .getfield 40, [6, 6]), (45, 1, .iload_n 1, []),
  (46, 3, .invokevirtual 76, [0, 49, 3, 7]), (49, 1, .istore_n 3, []), (50, 1, .iconst 0, []), (51, 2, .istore 4, []), (53, 2, .iload 4, []), (55, 1, .aload_n 0, []),
  (56, 3, .getfield 23, [6, 2]), (59, 3, .invokevirtual 43, [0, 270, 1, 0]), (62, 3, .if_icmp .ge 58, []), (65, 2, .iload 4, []), (67, 1, .aload_n 0, []), (68, 3, .getfield 9, [6, 3]),
  (71, 1, .arraylength, []), (72, 3, .if_icmp .ge 48, []), (75, 1, .aload_n 0, []), (76, 3, .getfield 23, [6, 2]), (79, 2, .iload 4, []), (81, 3, .invokevirtual 48, [0, 272, 2, 0]),
  (84, 3, .checkcast 52, [11]), (87, 2, .astore 5, []), (89, 1, .aload_n 0, []), (90, 2, .iload 4, []), (92, 2, .aload 5, []), (94, 3, .getfield 58, [11, 1]),
  (97, 1, .iload_n 2, []), (98, 2, .aload 5, []), (100, 3, .getfield 79, [11, 5]), (103, 1, .iadd, []), (104, 1, .iload_n 3, []), (105, 2, .aload 5, []),
  (107, 3, .getfield 82, [11, 6]), (110, 1, .iadd, []), (111, 3, .invokevirtual 85, [0, 39, 5, 6]), (114, 3, .iinc 4 1, []), (117, 3, .goto (-64), []), (120, 1, .return_, [])]
set_option maxRecDepth 20000 in
def k_X5_castShadow : List az_I := [
  (0, 2, .bipush 100, []), (2, 1, .aload_n 0, []), (3, 3, .getfield 15, [6, 0]), (6, 3, .getfield 89, [2, 0]), (9, 1, .imul, []), (10, 2, .istore 5, []),
  (12, 2, .bipush 100, []), (14, 1, .aload_n 0, []), (15, 3, .getfield 15, [6, 0]), (18, 3, .getfield 92, [2, 1]), (21, 1, .imul, []), (22, 2, .istore 6, []),
  (24, 1, .aload_n 0, []), (25, 1, .iload_n 1, []), (26, 3, .invokevirtual 95, [0, 40, 2, 6]), (29, 2, .istore 7, []), (31, 2, .bipush 100, []), (33, 1, .aload_n 0, []),
  (34, 3, .getfield 15, [6, 0]), (37, 1, .iload_n 2, []), (38, 3, .invokevirtual 99, [0, 6, 2, 2]), (41, 1, .imul, []), (42, 2, .bipush 50, []), (44, 1, .iadd, []),
  (45, 2, .istore 8, []), (47, 2, .bipush 100, []), (49, 1, .aload_n 0, []), (50, 3, .getfield 15, [6, 0]), (53, 1, .iload_n 2, []), (54, 3, .invokevirtual 102, [0, 7, 2, 2]),
  (57, 1, .imul, []), (58, 2, .bipush 50, []), (60, 1, .iadd, []), (61, 2, .istore 9, []), (63, 1, .iconst 1, []), (64, 2, .istore 10, []),
  (66, 2, .iload 10, []), (68, 2, .iload 7, []), (70, 3, .if_icmp .gt 101, []), (73, 2, .iload 8, []), (75, 1, .iload_n 3, []), (76, 1, .iadd, []),
  (77, 2, .istore 8, []), (79, 2, .iload 9, []), (81, 2, .iload 4, []), (83, 1, .iadd, []), (84, 2, .istore 9, []), (86, 2, .iload 8, []),
  (88, 3, .ifCond .lt 22, []), (91, 2, .iload 8, []), (93, 2, .iload 5, []), (95, 3, .if_icmp .ge 15, []), (98, 2, .iload 9, []), (100, 3, .ifCond .lt 10, []),
  (103, 2, .iload 9, []), (105, 2, .iload 6, []), (107, 3, .if_icmp .lt 4, []), (110, 1, .return_, []), (111, 2, .iload 9, []), (113, 2, .bipush 100, []),
  (115, 1, .idiv, []), (116, 1, .aload_n 0, []), (117, 3, .getfield 15, [6, 0]), (120, 3, .getfield 89, [2, 0]), (123, 1, .imul, []), (124, 2, .iload 8, []),
  (126, 2, .bipush 100, []), (128, 1, .idiv, []), (129, 1, .iadd, []), (130, 2, .istore 11, []), (132, 2, .iload 11, []), (134, 1, .aload_n 0, []),
  (135, 3, .getfield 33, [6, 4]), (138, 1, .arraylength, []), (139, 3, .if_icmp .ge 26, []), (142, 1, .aload_n 0, []), (143, 3, .getfield 33, [6, 4]), (146, 2, .iload 11, []),
  (148, 1, .baload, []), (149, 3, .ifCond .ne 16, []), (152, 1, .aload_n 0, []), (153, 3, .getfield 37, [6, 5]), (156, 2, .iload 11, []), (158, 1, .dup2, []),
  (159, 1, .iaload, []), (160, 1, .iconst 1, []), (161, 1, .iload_n 1, []), (162, 1, .ishl, []), (163, 1, .ior, []), (164, 1, .iastore, []),
  (165, 3, .iinc 10 1, []), (168, 3, .goto (-102), []), (171, 1, .return_, [])]
set_option maxRecDepth 20000 in
def k_X5_heightOf : List az_I := [
  (0, 1, .iload_n 1, []), (1, 3, .ifCond .lt 21, []), (4, 1, .iload_n 1, []), (5, 1, .aload_n 0, []), (6, 3, .getfield 9, [6, 3]), (9, 1, .arraylength, []),
  (10, 3, .if_icmp .ge 12, []), (13, 1, .aload_n 0, []), (14, 3, .getfield 9, [6, 3]), (17, 1, .iload_n 1, []), (18, 1, .iaload, []), (19, 3, .goto 4, []),
  (22, 1, .iconst (-1), []), (23, 1, .ireturn, [])]
set_option maxRecDepth 20000 in
def k_X5_isOpen : List az_I := [
  (0, 1, .iload_n 1, []), (1, 3, .ifCond .lt 25, []), (4, 1, .iload_n 1, []), (5, 1, .aload_n 0, []), (6, 3, .getfield 33, [6, 4]), (9, 1, .arraylength, []),
  (10, 3, .if_icmp .ge 16, []), (13, 1, .aload_n 0, []), (14, 3, .getfield 33, [6, 4]), (17, 1, .iload_n 1, []), (18, 1, .baload, []), (19, 3, .ifCond .ne 7, []),
  (22, 1, .iconst 1, []), (23, 3, .goto 4, []), (26, 1, .iconst 0, []), (27, 1, .ireturn, [])]
set_option maxRecDepth 20000 in
def k_X5_shadersOf : List az_I := [
  (0, 1, .iload_n 1, []), (1, 3, .ifCond .lt 12, []), (4, 1, .iload_n 1, []), (5, 1, .aload_n 0, []), (6, 3, .getfield 37, [6, 5]), (9, 1, .arraylength, []),
  (10, 3, .if_icmp .lt 5, []), (13, 1, .iconst 0, []), (14, 1, .ireturn, []), (15, 1, .aload_n 0, []), (16, 3, .getfield 37, [6, 5]), (19, 1, .iload_n 1, []),
  (20, 1, .iaload, []), (21, 1, .istore_n 2, []), (22, 1, .iconst 0, []), (23, 1, .istore_n 3, []), (24, 1, .iload_n 3, []), (25, 2, .bipush 12, []),
  (27, 3, .if_icmp .ge 19, []), (30, 1, .iload_n 2, []), (31, 3, .ifCond .eq 15, []), (34, 1, .iload_n 2, []), (35, 1, .iload_n 2, []), (36, 1, .iconst 1, []),
  (37, 1, .isub, []), (38, 1, .iand, []), (39, 1, .istore_n 2, []), (40, 3, .iinc 3 1, []), (43, 3, .goto (-19), []), (46, 1, .aload_n 0, []),
  (47, 3, .getfield 37, [6, 5]), (50, 1, .iload_n 1, []), (51, 1, .iaload, []), (52, 1, .iload_n 2, []), (53, 1, .iconst (-1), []), (54, 1, .ixor, []),
  (55, 1, .iand, []), (56, 1, .ireturn, [])]
set_option maxRecDepth 20000 in
def k_X5_partsOf : List az_I := [
  (0, 1, .aload_n 0, []), (1, 1, .iload_n 2, []), (2, 3, .invokevirtual 105, [0, 42, 2, 6]), (5, 1, .istore_n 3, []), (6, 1, .iload_n 3, []), (7, 3, .invokestatic 108, [0, 252, 1, 999]),
  (10, 2, .istore 4, []), (12, 2, .iload 4, []), (14, 3, .ifCond .le 19, []), (17, 3, .sipush 27720, []), (20, 2, .iload 4, []), (22, 1, .idiv, []),
  (23, 1, .iload_n 3, []), (24, 1, .iload_n 1, []), (25, 1, .iand, []), (26, 3, .invokestatic 108, [0, 252, 1, 999]), (29, 1, .imul, []), (30, 3, .goto 4, []),
  (33, 1, .iconst 0, []), (34, 1, .ireturn, [])]
set_option maxRecDepth 20000 in
def k_X5_partsOfAll : List az_I := [
  (0, 1, .lconst 0, []), (1, 1, .lstore_n 2, []), (2, 1, .iconst 0, []), (3, 2, .istore 4, []), (5, 2, .iload 4, []), (7, 1, .aload_n 0, []),
  (8, 3, .getfield 37, [6, 5]), (11, 1, .arraylength, []), (12, 3, .if_icmp .ge 32, []), (15, 1, .aload_n 0, []), (16, 3, .getfield 37, [6, 5]), (19, 2, .iload 4, []),
  (21, 1, .iaload, []), (22, 1, .iload_n 1, []), (23, 1, .iand, []), (24, 3, .ifCond .eq 14, []), (27, 1, .lload_n 2, []), (28, 1, .aload_n 0, []),
  (29, 1, .iload_n 1, []), (30, 2, .iload 4, []), (32, 3, .invokevirtual 113, [0, 43, 3, 6]), (35, 1, .i2l, []), (36, 1, .ladd, []), (37, 1, .lstore_n 2, []),
  (38, 3, .iinc 4 1, []), (41, 3, .goto (-36), []), (44, 1, .lload_n 2, []), (45, 1, .lreturn, [])]
set_option maxRecDepth 20000 in
def k_X5_cellsShadedBy : List az_I := [
  (0, 1, .iconst 0, []), (1, 1, .istore_n 2, []), (2, 1, .iconst 0, []), (3, 1, .istore_n 3, []), (4, 1, .iload_n 3, []), (5, 1, .aload_n 0, []),
  (6, 3, .getfield 37, [6, 5]), (9, 1, .arraylength, []), (10, 3, .if_icmp .ge 25, []), (13, 1, .aload_n 0, []), (14, 3, .getfield 37, [6, 5]), (17, 1, .iload_n 3, []),
  (18, 1, .iaload, []), (19, 1, .iload_n 1, []), (20, 1, .ishr, []), (21, 1, .iconst 1, []), (22, 1, .iand, []), (23, 3, .ifCond .eq 6, []),
  (26, 3, .iinc 2 1, []), (29, 3, .iinc 3 1, []), (32, 3, .goto (-28), []), (35, 1, .iload_n 2, []), (36, 1, .ireturn, [])]
set_option maxRecDepth 20000 in
def k_X6_init : List az_I := [
  (0, 1, .aload_n 0, []), (1, 3, .invokespecial 3, [1, 2, 3]), (4, 1, .aload_n 0, []), (5, 3, .sipush 144, []), (8, 2, .newarray .int, []), (10, 3, .putfield 9, [7, 0]),
  (13, 1, .aload_n 0, []), (14, 3, .sipush 144, []), (17, 2, .newarray .int, []), (19, 3, .putfield 15, [7, 1]), (22, 1, .aload_n 0, []), (23, 2, .bipush 60, []),
  (25, 2, .newarray .int, []), (27, 3, .putfield 18, [7, 2]), (30, 1, .iconst 0, []), (31, 1, .istore_n 1, []), (32, 1, .iload_n 1, []), (33, 2, .bipush 12, []),
  (35, 3, .if_icmp .ge 66, []), (38, 1, .iconst 0, []), (39, 1, .istore_n 2, []), (40, 1, .iload_n 2, []), (41, 2, .bipush 12, []), (43, 3, .if_icmp .ge 52, []),
  (46, 1, .aload_n 0, []), (47, 3, .getfield 9, [7, 0]), (50, 1, .iload_n 1, []), (51, 2, .bipush 12, []), (53, 1, .imul, []), (54, 1, .iload_n 2, []),
  (55, 1, .iadd, []), (56, 2, .bipush 20, []), (58, 1, .iconst 2, []), (59, 1, .iload_n 2, []), (60, 1, .imul, []), (61, 2, .bipush 11, []),
  (63, 1, .isub, []), (64, 1, .imul, []), (65, 1, .iastore, []), (66, 1, .aload_n 0, []), (67, 3, .getfield 15, [7, 1]), (70, 1, .iload_n 1, []),
  (71, 2, .bipush 12, []), (73, 1, .imul, []), (74, 1, .iload_n 2, []), (75, 1, .iadd, []), (76, 2, .bipush 20, []), (78, 1, .iconst 5, []),
  (79, 1, .iload_n 1, []), (80, 2, .bipush 6, []), (82, 1, .isub, []), (83, 3, .invokestatic 21, [0, 254, 1, 999]), (86, 1, .imul, []), (87, 1, .iadd, []),
  (88, 1, .iastore, []), (89, 3, .iinc 2 1, []), (92, 3, .goto (-52), []), (95, 3, .iinc 1 1, []), (98, 3, .goto (-66), []), (101, 1, .return_, [])]
set_option maxRecDepth 20000 in
def k_X6_setSun : List az_I := [
  (0, 1, .iload_n 1, []), (1, 2, .bipush 12, []), (3, 1, .imul, []), (4, 1, .iload_n 2, []), (5, 1, .iadd, []), (6, 2, .istore 5, []),
  (8, 2, .iload 5, []), (10, 3, .ifCond .lt 30, []), (13, 2, .iload 5, []), (15, 1, .aload_n 0, []), (16, 3, .getfield 9, [7, 0]), (19, 1, .arraylength, []),
  (20, 3, .if_icmp .ge 20, []), (23, 1, .aload_n 0, []), (24, 3, .getfield 9, [7, 0]), (27, 2, .iload 5, []), (29, 1, .iload_n 3, []), (30, 1, .iastore, []),
  (31, 1, .aload_n 0, []), (32, 3, .getfield 15, [7, 1]), (35, 2, .iload 5, []), (37, 2, .iload 4, []), (39, 1, .iastore, []), (40, 1, .return_, [])]
set_option maxRecDepth 20000 in
def k_X6_sunX : List az_I := [
  (0, 1, .iload_n 1, []), (1, 3, .invokestatic 27, [0, 136, 1, 999]), (4, 2, .bipush 12, []), (6, 1, .imul, []), (7, 1, .iload_n 2, []), (8, 1, .iadd, []),
  (9, 1, .istore_n 3, []), (10, 1, .iload_n 3, []), (11, 3, .ifCond .lt 21, []), (14, 1, .iload_n 3, []), (15, 1, .aload_n 0, []), (16, 3, .getfield 9, [7, 0]),
  (19, 1, .arraylength, []), (20, 3, .if_icmp .ge 12, []), (23, 1, .aload_n 0, []), (24, 3, .getfield 9, [7, 0]), (27, 1, .iload_n 3, []), (28, 1, .iaload, []),
  (29, 3, .goto 4, []), (32, 1, .iconst 0, []), (33, 1, .ireturn, [])]
set_option maxRecDepth 20000 in
def k_X6_sunY : List az_I := [
  (0, 1, .iload_n 1, []), (1, 3, .invokestatic 27, [0, 136, 1, 999]), (4, 2, .bipush 12, []), (6, 1, .imul, []), (7, 1, .iload_n 2, []), (8, 1, .iadd, []),
  (9, 1, .istore_n 3, []), (10, 1, .iload_n 3, []), (11, 3, .ifCond .lt 21, []), (14, 1, .iload_n 3, []), (15, 1, .aload_n 0, []), (16, 3, .getfield 15, [7, 1]),
  (19, 1, .arraylength, []), (20, 3, .if_icmp .ge 12, []), (23, 1, .aload_n 0, []), (24, 3, .getfield 15, [7, 1]), (27, 1, .iload_n 3, []), (28, 1, .iaload, []),
  (29, 3, .goto 4, []), (32, 1, .iconst 0, []), (33, 1, .ireturn, [])]
set_option maxRecDepth 20000 in
def k_X6_isClouded : List az_I := [
  (0, 1, .iconst 0, []), (1, 1, .istore_n 3, []), (2, 1, .iload_n 3, []), (3, 1, .aload_n 0, []), (4, 3, .getfield 30, [7, 3]), (7, 3, .if_icmp .ge 35, []),
  (10, 1, .iload_n 3, []), (11, 1, .aload_n 0, []), (12, 3, .getfield 18, [7, 2]), (15, 1, .arraylength, []), (16, 3, .if_icmp .ge 26, []), (19, 1, .aload_n 0, []),
  (20, 3, .getfield 18, [7, 2]), (23, 1, .iload_n 3, []), (24, 1, .iaload, []), (25, 1, .iload_n 1, []), (26, 2, .bipush 12, []), (28, 1, .imul, []),
  (29, 1, .iload_n 2, []), (30, 1, .iadd, []), (31, 3, .if_icmp .ne 5, []), (34, 1, .iconst 1, []), (35, 1, .ireturn, []), (36, 3, .iinc 3 1, []),
  (39, 3, .goto (-37), []), (42, 1, .iconst 0, []), (43, 1, .ireturn, [])]
set_option maxRecDepth 20000 in
def k_X6_addCloud : List az_I := [
  (0, 1, .aload_n 0, []), (1, 3, .getfield 30, [7, 3]), (4, 3, .ifCond .lt 15, []), (7, 1, .aload_n 0, []), (8, 3, .getfield 30, [7, 3]), (11, 1, .aload_n 0, []),
  (12, 3, .getfield 18, [7, 2]), (15, 1, .arraylength, []), (16, 3, .if_icmp .lt 5, []), (19, 1, .iconst (-1), []), (20, 1, .ireturn, []), (21, 1, .aload_n 0, []),
  (22, 3, .getfield 18, [7, 2]), (25, 1, .aload_n 0, []), (26, 3, .getfield 30, [7, 3]), (29, 1, .iload_n 1, []), (30, 2, .bipush 12, []), (32, 1, .imul, []),
  (33, 1, .iload_n 2, []), (34, 1, .iadd, []), (35, 1, .iastore, []), (36, 1, .aload_n 0, []), (37, 1, .dup, []), (38, 3, .getfield 30, [7, 3]),
  (41, 1, .iconst 1, []), (42, 1, .iadd, []), (43, 3, .putfield 30, [7, 3]), (46, 1, .aload_n 0, []), (47, 3, .getfield 30, [7, 3]), (50, 1, .ireturn, [])]
set_option maxRecDepth 20000 in
def k_X7_init : List az_I := [
  (0, 1, .aload_n 0, []), (1, 3, .invokespecial 3, [1, 2, 3]), (4, 1, .aload_n 0, []), (5, 2, .bipush 12, []), (7, 2, .newarray .int, []), (9, 3, .putfield 9, [8, 2]),
  (12, 1, .aload_n 0, []), (13, 1, .iload_n 1, []), (14, 3, .putfield 15, [8, 0]), (17, 1, .aload_n 0, []), (18, 1, .iload_n 2, []), (19, 3, .putfield 19, [8, 1]),
  (22, 1, .aload_n 0, []), (23, 3, .getfield 9, [8, 2]), (26, 1, .iconst (-1), []), (27, 3, .invokestatic 22, [0, 275, 2, 999]), (30, 1, .return_, [])]
set_option maxRecDepth 20000 in
def k_X7_isOn : List az_I := [
  (0, 1, .iload_n 1, []), (1, 1, .aload_n 0, []), (2, 3, .getfield 15, [8, 0]), (5, 3, .if_icmp .lt 15, []), (8, 1, .iload_n 1, []), (9, 1, .aload_n 0, []),
  (10, 3, .getfield 19, [8, 1]), (13, 3, .if_icmp .gt 7, []), (16, 1, .iconst 1, []), (17, 3, .goto 4, []), (20, 1, .iconst 0, []), (21, 1, .ireturn, [])]
set_option maxRecDepth 20000 in
def k_X7_put : List az_I := [
  (0, 1, .iload_n 1, []), (1, 3, .ifCond .lt 19, []), (4, 1, .iload_n 1, []), (5, 1, .aload_n 0, []), (6, 3, .getfield 9, [8, 2]), (9, 1, .arraylength, []),
  (10, 3, .if_icmp .ge 10, []), (13, 1, .aload_n 0, []), (14, 3, .getfield 9, [8, 2]), (17, 1, .iload_n 1, []), (18, 1, .iload_n 2, []), (19, 1, .iastore, []),
  (20, 1, .return_, [])]
set_option maxRecDepth 20000 in
def k_X7_cellIn : List az_I := [
  (0, 1, .iload_n 1, []), (1, 3, .ifCond .lt 21, []), (4, 1, .iload_n 1, []), (5, 1, .aload_n 0, []), (6, 3, .getfield 9, [8, 2]), (9, 1, .arraylength, []),
  (10, 3, .if_icmp .ge 12, []), (13, 1, .aload_n 0, []), (14, 3, .getfield 9, [8, 2]), (17, 1, .iload_n 1, []), (18, 1, .iaload, []), (19, 3, .goto 4, []),
  (22, 1, .iconst (-1), []), (23, 1, .ireturn, [])]
set_option maxRecDepth 20000 in
def k_X7_hasCell : List az_I := [
  (0, 1, .iconst 0, []), (1, 1, .istore_n 2, []), (2, 1, .iload_n 2, []), (3, 1, .aload_n 0, []), (4, 3, .getfield 9, [8, 2]), (7, 1, .arraylength, []),
  (8, 3, .if_icmp .ge 21, []), (11, 1, .aload_n 0, []), (12, 3, .getfield 9, [8, 2]), (15, 1, .iload_n 2, []), (16, 1, .iaload, []), (17, 1, .iload_n 1, []),
  (18, 3, .if_icmp .ne 5, []), (21, 1, .iconst 1, []), (22, 1, .ireturn, []), (23, 3, .iinc 2 1, []), (26, 3, .goto (-24), []), (29, 1, .iconst 0, []),
  (30, 1, .ireturn, [])]
set_option maxRecDepth 20000 in
def k_X8_init : List az_I := [
  (0, 1, .aload_n 0, []), (1, 3, .invokespecial 3, [1, 2, 3]), (4, 1, .aload_n 0, []), (5, 3, .sipush 400, []), (8, 2, .newarray .int, []), (10, 3, .putfield 9, [9, 0]),
  (13, 1, .aload_n 0, []), (14, 3, .sipush 401, []), (17, 2, .newarray .int, []), (19, 3, .putfield 15, [9, 2]), (22, 1, .aload_n 0, []), (23, 3, .sipush 401, []),
  (26, 2, .newarray .int, []), (28, 3, .putfield 18, [9, 3]), (31, 1, .aload_n 0, []), (32, 3, .sipush 401, []), (35, 2, .newarray .int, []), (37, 3, .putfield 21, [9, 4]),
  (40, 1, .return_, [])]
set_option maxRecDepth 20000 in
def k_X8_addFour : List az_I := [
  (0, 2, .bipush 24, []), (2, 1, .istore_n 2, []), (3, 1, .iload_n 2, []), (4, 3, .ifCond .lt 54, []), (7, 1, .aload_n 0, []), (8, 3, .getfield 24, [9, 1]),
  (11, 3, .ifCond .lt 47, []), (14, 1, .aload_n 0, []), (15, 3, .getfield 24, [9, 1]), (18, 1, .aload_n 0, []), (19, 3, .getfield 9, [9, 0]), (22, 1, .arraylength, []),
  (23, 3, .if_icmp .ge 35, []), (26, 1, .aload_n 0, []), (27, 3, .getfield 9, [9, 0]), (30, 1, .aload_n 0, []), (31, 3, .getfield 24, [9, 1]), (34, 1, .iload_n 1, []),
  (35, 1, .iload_n 2, []), (36, 1, .ishr, []), (37, 3, .sipush 255, []), (40, 1, .iand, []), (41, 1, .iastore, []), (42, 1, .aload_n 0, []),
  (43, 1, .dup, []), (44, 3, .getfield 24, [9, 1]), (47, 1, .iconst 1, []), (48, 1, .iadd, []), (49, 3, .putfield 24, [9, 1]), (52, 3, .iinc 2 (-8), []),
  (55, 3, .goto (-52), []), (58, 1, .return_, [])]
set_option maxRecDepth 20000 in
def k_X8_cutIntoTokens : List az_I := [
  (0, 1, .aload_n 0, []), (1, 1, .iconst 0, []), (2, 3, .putfield 28, [9, 5]), (5, 1, .iconst 0, []), (6, 1, .istore_n 1, []), (7, 1, .iconst 0, []),
  (8, 1, .istore_n 2, []), (9, 1, .iload_n 2, []), (10, 3, .sipush 400, []), (13, 3, .if_icmp .ge 157, []), (16, 1, .iload_n 1, []), (17, 1, .aload_n 0, []),
  (18, 3, .getfield 24, [9, 1]), (21, 3, .if_icmp .ge 149, []), (24, 1, .aload_n 0, []), (25, 1, .iload_n 1, []), (26, 3, .invokevirtual 31, [0, 63, 2, 9]), (29, 1, .istore_n 3, []),
  (30, 1, .iload_n 3, []), (31, 3, .invokestatic 35, [0, 65, 1, 999]), (34, 3, .ifCond .eq 23, []), (37, 1, .aload_n 0, []), (38, 1, .iload_n 1, []), (39, 3, .invokevirtual 39, [0, 67, 2, 9]),
  (42, 2, .istore 4, []), (44, 1, .aload_n 0, []), (45, 1, .iload_n 1, []), (46, 2, .iload 4, []), (48, 3, .invokevirtual 42, [0, 70, 3, 9]), (51, 2, .iload 4, []),
  (53, 1, .istore_n 1, []), (54, 3, .goto 110, []), (57, 1, .iload_n 3, []), (58, 3, .invokestatic 46, [0, 66, 1, 999]), (61, 3, .ifCond .eq 29, []), (64, 1, .aload_n 0, []),
  (65, 1, .iload_n 1, []), (66, 3, .invokevirtual 49, [0, 68, 2, 9]), (69, 2, .istore 4, []), (71, 1, .aload_n 0, []), (72, 1, .iconst 2, []), (73, 1, .iload_n 1, []),
  (74, 1, .aload_n 0, []), (75, 1, .iload_n 1, []), (76, 2, .iload 4, []), (78, 3, .invokevirtual 52, [0, 69, 3, 9]), (81, 3, .invokevirtual 56, [0, 64, 4, 9]), (84, 2, .iload 4, []),
  (86, 1, .istore_n 1, []), (87, 3, .goto 77, []), (90, 1, .iload_n 3, []), (91, 2, .bipush 60, []), (93, 3, .if_icmp .eq 9, []), (96, 1, .iload_n 3, []),
  (97, 2, .bipush 62, []), (99, 3, .if_icmp .ne 40, []), (102, 1, .aload_n 0, []), (103, 1, .iload_n 1, []), (104, 1, .iconst 1, []), (105, 1, .iadd, []),
  (106, 3, .invokevirtual 31, [0, 63, 2, 9]), (109, 2, .bipush 61, []), (111, 3, .if_icmp .ne 28, []), (114, 1, .aload_n 0, []), (115, 1, .iload_n 3, []), (116, 2, .bipush 60, []),
  (118, 3, .if_icmp .ne 8, []), (121, 2, .bipush 12, []), (123, 3, .goto 5, []), (126, 2, .bipush 14, []), (128, 1, .iload_n 1, []), (129, 1, .iconst 0, []),
  (130, 3, .invokevirtual 56, [0, 64, 4, 9]), (133, 3, .iinc 1 2, []), (136, 3, .goto 28, []), (139, 1, .iload_n 3, []), (140, 2, .bipush 32, []), (142, 3, .if_icmp .eq 19, []),
  (145, 1, .iload_n 3, []), (146, 2, .bipush 10, []), (148, 3, .if_icmp .eq 13, []), (151, 1, .aload_n 0, []), (152, 1, .iload_n 3, []), (153, 3, .invokestatic 60, [0, 74, 1, 999]),
  (156, 1, .iload_n 1, []), (157, 1, .iconst 0, []), (158, 3, .invokevirtual 56, [0, 64, 4, 9]), (161, 3, .iinc 1 1, []), (164, 3, .iinc 2 1, []), (167, 3, .goto (-158), []),
  (170, 1, .aload_n 0, []), (171, 1, .iconst 0, []), (172, 1, .aload_n 0, []), (173, 3, .getfield 24, [9, 1]), (176, 1, .iconst 0, []), (177, 3, .invokevirtual 56, [0, 64, 4, 9]),
  (180, 1, .return_, [])]
set_option maxRecDepth 20000 in
def k_X8_kindOf : List az_I := [
  (0, 1, .iload_n 1, []), (1, 3, .ifCond .lt 29, []), (4, 1, .iload_n 1, []), (5, 1, .aload_n 0, []), (6, 3, .getfield 28, [9, 5]), (9, 3, .if_icmp .ge 21, []),
  (12, 1, .iload_n 1, []), (13, 1, .aload_n 0, []), (14, 3, .getfield 15, [9, 2]), (17, 1, .arraylength, []), (18, 3, .if_icmp .ge 12, []), (21, 1, .aload_n 0, []),
  (22, 3, .getfield 15, [9, 2]), (25, 1, .iload_n 1, []), (26, 1, .iaload, []), (27, 3, .goto 4, []), (30, 1, .iconst 0, []), (31, 1, .ireturn, [])]
set_option maxRecDepth 20000 in
def k_X8_startOf : List az_I := [
  (0, 1, .iload_n 1, []), (1, 3, .ifCond .lt 29, []), (4, 1, .iload_n 1, []), (5, 1, .aload_n 0, []), (6, 3, .getfield 28, [9, 5]), (9, 3, .if_icmp .ge 21, []),
  (12, 1, .iload_n 1, []), (13, 1, .aload_n 0, []), (14, 3, .getfield 18, [9, 3]), (17, 1, .arraylength, []), (18, 3, .if_icmp .ge 12, []), (21, 1, .aload_n 0, []),
  (22, 3, .getfield 18, [9, 3]), (25, 1, .iload_n 1, []), (26, 1, .iaload, []), (27, 3, .goto 4, []), (30, 1, .iconst (-1), []), (31, 1, .ireturn, [])]
set_option maxRecDepth 20000 in
def k_X8_valueOf : List az_I := [
  (0, 1, .iload_n 1, []), (1, 3, .ifCond .lt 29, []), (4, 1, .iload_n 1, []), (5, 1, .aload_n 0, []), (6, 3, .getfield 28, [9, 5]), (9, 3, .if_icmp .ge 21, []),
  (12, 1, .iload_n 1, []), (13, 1, .aload_n 0, []), (14, 3, .getfield 21, [9, 4]), (17, 1, .arraylength, []), (18, 3, .if_icmp .ge 12, []), (21, 1, .aload_n 0, []),
  (22, 3, .getfield 21, [9, 4]), (25, 1, .iload_n 1, []), (26, 1, .iaload, []), (27, 3, .goto 4, []), (30, 1, .iconst 0, []), (31, 1, .ireturn, [])]
set_option maxRecDepth 20000 in
def k_X8_byteAt : List az_I := [
  (0, 1, .iload_n 1, []), (1, 3, .ifCond .lt 29, []), (4, 1, .iload_n 1, []), (5, 1, .aload_n 0, []), (6, 3, .getfield 24, [9, 1]), (9, 3, .if_icmp .ge 21, []),
  (12, 1, .iload_n 1, []), (13, 1, .aload_n 0, []), (14, 3, .getfield 9, [9, 0]), (17, 1, .arraylength, []), (18, 3, .if_icmp .ge 12, []), (21, 1, .aload_n 0, []),
  (22, 3, .getfield 9, [9, 0]), (25, 1, .iload_n 1, []), (26, 1, .iaload, []), (27, 3, .goto 4, []), (30, 1, .iconst (-1), []), (31, 1, .ireturn, [])]
set_option maxRecDepth 20000 in
def k_X8_addToken : List az_I := [
  (0, 1, .aload_n 0, []), (1, 3, .getfield 28, [9, 5]), (4, 3, .ifCond .lt 55, []), (7, 1, .aload_n 0, []), (8, 3, .getfield 28, [9, 5]), (11, 1, .aload_n 0, []),
  (12, 3, .getfield 15, [9, 2]), (15, 1, .arraylength, []), (16, 3, .if_icmp .ge 43, []), (19, 1, .aload_n 0, []), (20, 3, .getfield 15, [9, 2]), (23, 1, .aload_n 0, []),
  (24, 3, .getfield 28, [9, 5]), (27, 1, .iload_n 1, []), (28, 1, .iastore, []), (29, 1, .aload_n 0, []), (30, 3, .getfield 18, [9, 3]), (33, 1, .aload_n 0, []),
  (34, 3, .getfield 28, [9, 5]), (37, 1, .iload_n 2, []), (38, 1, .iastore, []), (39, 1, .aload_n 0, []), (40, 3, .getfield 21, [9, 4]), (43, 1, .aload_n 0, []),
  (44, 3, .getfield 28, [9, 5]), (47, 1, .iload_n 3, []), (48, 1, .iastore, []), (49, 1, .aload_n 0, []), (50, 1, .dup, []), (51, 3, .getfield 28, [9, 5]),
  (54, 1, .iconst 1, []), (55, 1, .iadd, []), (56, 3, .putfield 28, [9, 5]), (59, 1, .return_, [])]
set_option maxRecDepth 20000 in
def k_X8_isLetter : List az_I := [
  (0, 1, .iload_n 0, []), (1, 2, .bipush 97, []), (3, 3, .if_icmp .lt 9, []), (6, 1, .iload_n 0, []), (7, 2, .bipush 122, []), (9, 3, .if_icmp .le 15, []),
  (12, 1, .iload_n 0, []), (13, 2, .bipush 65, []), (15, 3, .if_icmp .lt 13, []), (18, 1, .iload_n 0, []), (19, 2, .bipush 90, []), (21, 3, .if_icmp .gt 7, []),
  (24, 1, .iconst 1, []), (25, 3, .goto 4, []), (28, 1, .iconst 0, []), (29, 1, .ireturn, [])]
set_option maxRecDepth 20000 in
def k_X8_isDigit : List az_I := [
  (0, 1, .iload_n 0, []), (1, 2, .bipush 48, []), (3, 3, .if_icmp .lt 13, []), (6, 1, .iload_n 0, []), (7, 2, .bipush 57, []), (9, 3, .if_icmp .gt 7, []),
  (12, 1, .iconst 1, []), (13, 3, .goto 4, []), (16, 1, .iconst 0, []), (17, 1, .ireturn, [])]
set_option maxRecDepth 20000 in
def k_X8_endOfLetters : List az_I := [
  (0, 1, .iload_n 1, []), (1, 1, .istore_n 2, []), (2, 1, .iload_n 2, []), (3, 1, .aload_n 0, []), (4, 3, .getfield 24, [9, 1]), (7, 3, .if_icmp .ge 20, []),
  (10, 1, .aload_n 0, []), (11, 1, .iload_n 2, []), (12, 3, .invokevirtual 31, [0, 63, 2, 9]), (15, 3, .invokestatic 35, [0, 65, 1, 999]), (18, 3, .ifCond .eq 9, []), (21, 3, .iinc 2 1, []),
  (24, 3, .goto (-22), []), (27, 1, .iload_n 2, []), (28, 1, .ireturn, [])]
set_option maxRecDepth 20000 in
def k_X8_endOfDigits : List az_I := [
  (0, 1, .iload_n 1, []), (1, 1, .istore_n 2, []), (2, 1, .iload_n 2, []), (3, 1, .aload_n 0, []), (4, 3, .getfield 24, [9, 1]), (7, 3, .if_icmp .ge 20, []),
  (10, 1, .aload_n 0, []), (11, 1, .iload_n 2, []), (12, 3, .invokevirtual 31, [0, 63, 2, 9]), (15, 3, .invokestatic 46, [0, 66, 1, 999]), (18, 3, .ifCond .eq 9, []), (21, 3, .iinc 2 1, []),
  (24, 3, .goto (-22), []), (27, 1, .iload_n 2, []), (28, 1, .ireturn, [])]
set_option maxRecDepth 20000 in
def k_X8_numberOf : List az_I := [
  (0, 1, .iconst 0, []), (1, 1, .istore_n 3, []), (2, 1, .iload_n 1, []), (3, 2, .istore 4, []), (5, 2, .iload 4, []), (7, 1, .iload_n 2, []),
  (8, 3, .if_icmp .ge 29, []), (11, 2, .ldc 63, [0, 100001]), (13, 2, .bipush 10, []), (15, 1, .iload_n 3, []), (16, 1, .imul, []), (17, 1, .aload_n 0, []),
  (18, 2, .iload 4, []), (20, 3, .invokevirtual 31, [0, 63, 2, 9]), (23, 1, .iadd, []), (24, 2, .bipush 48, []), (26, 1, .isub, []), (27, 3, .invokestatic 64, [0, 257, 2, 999]),
  (30, 1, .istore_n 3, []), (31, 3, .iinc 4 1, []), (34, 3, .goto (-29), []), (37, 1, .iload_n 3, []), (38, 1, .ireturn, [])]
set_option maxRecDepth 20000 in
def k_X8_addWord : List az_I := [
  (0, 1, .aload_n 0, []), (1, 1, .iload_n 1, []), (2, 1, .iload_n 2, []), (3, 3, .invokevirtual 69, [0, 71, 3, 9]), (6, 1, .istore_n 3, []), (7, 1, .iload_n 3, []),
  (8, 1, .iconst (-1), []), (9, 3, .if_icmp .ne 18, []), (12, 1, .aload_n 0, []), (13, 1, .aload_n 0, []), (14, 1, .iload_n 1, []), (15, 1, .iload_n 2, []),
  (16, 3, .invokevirtual 72, [0, 72, 3, 9]), (19, 1, .iload_n 1, []), (20, 1, .iconst 0, []), (21, 3, .invokevirtual 56, [0, 64, 4, 9]), (24, 3, .goto 10, []), (27, 1, .aload_n 0, []),
  (28, 1, .iconst 3, []), (29, 1, .iload_n 1, []), (30, 1, .iload_n 3, []), (31, 3, .invokevirtual 56, [0, 64, 4, 9]), (34, 1, .return_, [])]
set_option maxRecDepth 20000 in
def k_X8_nameOf : List az_I := [
  (0, 1, .aload_n 0, []), (1, 1, .iload_n 1, []), (2, 1, .iload_n 2, []), (3, 2, .ldc 75, [1, 1000010]), (5, 3, .invokevirtual 77, [0, 73, 4, 9]), (8, 3, .ifCond .eq 5, []),
  (11, 1, .iconst 0, []), (12, 1, .ireturn, []), (13, 1, .aload_n 0, []), (14, 1, .iload_n 1, []), (15, 1, .iload_n 2, []), (16, 2, .ldc 81, [1, 1000011]),
  (18, 3, .invokevirtual 77, [0, 73, 4, 9]), (21, 3, .ifCond .eq 5, []), (24, 1, .iconst 1, []), (25, 1, .ireturn, []), (26, 1, .aload_n 0, []), (27, 1, .iload_n 1, []),
  (28, 1, .iload_n 2, []), (29, 2, .ldc 83, [1, 1000012]), (31, 3, .invokevirtual 77, [0, 73, 4, 9]), (34, 3, .ifCond .eq 5, []), (37, 1, .iconst 2, []), (38, 1, .ireturn, []),
  (39, 1, .aload_n 0, []), (40, 1, .iload_n 1, []), (41, 1, .iload_n 2, []), (42, 2, .ldc 85, [1, 1000013]), (44, 3, .invokevirtual 77, [0, 73, 4, 9]), (47, 3, .ifCond .eq 5, []),
  (50, 1, .iconst 3, []), (51, 1, .ireturn, []), (52, 1, .aload_n 0, []), (53, 1, .iload_n 1, []), (54, 1, .iload_n 2, []), (55, 2, .ldc 87, [1, 1000014]),
  (57, 3, .invokevirtual 77, [0, 73, 4, 9]), (60, 3, .ifCond .eq 5, []), (63, 1, .iconst 4, []), (64, 1, .ireturn, []), (65, 1, .aload_n 0, []), (66, 1, .iload_n 1, []),
  (67, 1, .iload_n 2, []), (68, 2, .ldc 89, [1, 1000015]), (70, 3, .invokevirtual 77, [0, 73, 4, 9]), (73, 3, .ifCond .eq 5, []), (76, 1, .iconst 5, []), (77, 1, .ireturn, []),
  (78, 1, .aload_n 0, []), (79, 1, .iload_n 1, []), (80, 1, .iload_n 2, []), (81, 2, .ldc 91, [1, 1000016]), (83, 3, .invokevirtual 77, [0, 73, 4, 9]), (86, 3, .ifCond .eq 6, []),
  (89, 2, .bipush 6, []), (91, 1, .ireturn, []), (92, 1, .aload_n 0, []), (93, 1, .iload_n 1, []), (94, 1, .iload_n 2, []), (95, 2, .ldc 93, [1, 1000017]),
  (97, 3, .invokevirtual 77, [0, 73, 4, 9]), (100, 3, .ifCond .eq 6, []), (103, 2, .bipush 7, []), (105, 1, .ireturn, []), (106, 1, .iconst (-1), []), (107, 1, .ireturn, [])]
set_option maxRecDepth 20000 in
def k_X8_kindOfWord : List az_I := [
  (0, 1, .aload_n 0, []), (1, 1, .iload_n 1, []), (2, 1, .iload_n 2, []), (3, 2, .ldc 95, [1, 1000018]), (5, 3, .invokevirtual 77, [0, 73, 4, 9]), (8, 3, .ifCond .eq 5, []),
  (11, 1, .iconst 4, []), (12, 1, .ireturn, []), (13, 1, .aload_n 0, []), (14, 1, .iload_n 1, []), (15, 1, .iload_n 2, []), (16, 2, .ldc 97, [1, 1000019]),
  (18, 3, .invokevirtual 77, [0, 73, 4, 9]), (21, 3, .ifCond .eq 5, []), (24, 1, .iconst 5, []), (25, 1, .ireturn, []), (26, 1, .aload_n 0, []), (27, 1, .iload_n 1, []),
  (28, 1, .iload_n 2, []), (29, 2, .ldc 99, [1, 1000020]), (31, 3, .invokevirtual 77, [0, 73, 4, 9]), (34, 3, .ifCond .eq 6, []), (37, 2, .bipush 6, []), (39, 1, .ireturn, []),
  (40, 1, .aload_n 0, []), (41, 1, .iload_n 1, []), (42, 1, .iload_n 2, []), (43, 2, .ldc 101, [1, 1000021]), (45, 3, .invokevirtual 77, [0, 73, 4, 9]), (48, 3, .ifCond .eq 6, []),
  (51, 2, .bipush 7, []), (53, 1, .ireturn, []), (54, 1, .aload_n 0, []), (55, 1, .iload_n 1, []), (56, 1, .iload_n 2, []), (57, 2, .ldc 103, [1, 1000022]),
  (59, 3, .invokevirtual 77, [0, 73, 4, 9]), (62, 3, .ifCond .eq 6, []), (65, 2, .bipush 8, []), (67, 1, .ireturn, []), (68, 1, .aload_n 0, []), (69, 1, .iload_n 1, []),
  (70, 1, .iload_n 2, []), (71, 2, .ldc 105, [1, 1000023]), (73, 3, .invokevirtual 77, [0, 73, 4, 9]), (76, 3, .ifCond .eq 6, []), (79, 2, .bipush 9, []), (81, 1, .ireturn, []),
  (82, 1, .aload_n 0, []), (83, 1, .iload_n 1, []), (84, 1, .iload_n 2, []), (85, 2, .ldc 106, [1, 1000024]), (87, 3, .invokevirtual 77, [0, 73, 4, 9]), (90, 3, .ifCond .eq 6, []),
  (93, 2, .bipush 10, []), (95, 1, .ireturn, []), (96, 1, .iconst 1, []), (97, 1, .ireturn, [])]
set_option maxRecDepth 20000 in
def k_X8_isWord : List az_I := [
  (0, 1, .aload_n 3, []), (1, 3, .ifnull 13, []), (4, 1, .iload_n 2, []), (5, 1, .iload_n 1, []), (6, 1, .isub, []), (7, 1, .aload_n 3, []),
  (8, 3, .invokevirtual 108, [0, 259, 1, 113]), (11, 3, .if_icmp .eq 5, []), (14, 1, .iconst 0, []), (15, 1, .ireturn, []), (16, 1, .iconst 0, []), (17, 2, .istore 4, []),
  (19, 2, .iload 4, []), (21, 1, .aload_n 3, []), (22, 3, .invokevirtual 108, [0, 259, 1, 113]), (25, 3, .if_icmp .ge 28, []), (28, 1, .aload_n 0, []), (29, 1, .iload_n 1, []),
  (30, 2, .iload 4, []), (32, 1, .iadd, []), (33, 3, .invokevirtual 31, [0, 63, 2, 9]), (36, 1, .aload_n 3, []), (37, 2, .iload 4, []), (39, 3, .invokevirtual 113, [0, 260, 2, 113]),
  (42, 3, .if_icmp .eq 5, []), (45, 1, .iconst 0, []), (46, 1, .ireturn, []), (47, 3, .iinc 4 1, []), (50, 3, .goto (-31), []), (53, 1, .iconst 1, []),
  (54, 1, .ireturn, [])]
set_option maxRecDepth 20000 in
def k_X8_kindOfSign : List az_I := [
  (0, 1, .iload_n 0, []), (1, 251, .tableswitch 293 35 93 #[260, 293, 293, 293, 293, 275, 278, 269, 263, 287, 266, 293, 272, 293, 293, 293, 293, 293, 293, 293, 293, 293, 293, 293, 290, 251, 257, 254, 293, 293, 293, 293, 293, 293, 293, 293, 293, 293, 293, 293, 293, 293, 293, 293, 293, 293, 293, 293, 293, 293, 293, 293, 293, 293, 293, 293, 281, 293, 284], []), (252, 2, .bipush 11, []), (254, 1, .ireturn, []), (255, 2, .bipush 13, []), (257, 1, .ireturn, []),
  (258, 2, .bipush 15, []), (260, 1, .ireturn, []), (261, 2, .bipush 16, []), (263, 1, .ireturn, []), (264, 2, .bipush 17, []), (266, 1, .ireturn, []),
  (267, 2, .bipush 18, []), (269, 1, .ireturn, []), (270, 2, .bipush 19, []), (272, 1, .ireturn, []), (273, 2, .bipush 20, []), (275, 1, .ireturn, []),
  (276, 2, .bipush 21, []), (278, 1, .ireturn, []), (279, 2, .bipush 22, []), (281, 1, .ireturn, []), (282, 2, .bipush 23, []), (284, 1, .ireturn, []),
  (285, 2, .bipush 24, []), (287, 1, .ireturn, []), (288, 2, .bipush 25, []), (290, 1, .ireturn, []), (291, 2, .bipush 26, []), (293, 1, .ireturn, []),
  (294, 1, .iconst 1, []), (295, 1, .ireturn, [])]
set_option maxRecDepth 20000 in
def k_X9_init : List az_I := [
  (0, 1, .aload_n 0, []), (1, 3, .invokespecial 3, [1, 2, 3]), (4, 1, .aload_n 0, []), (5, 3, .sipush 400, []), (8, 2, .newarray .int, []), (10, 3, .putfield 9, [10, 0]),
  (13, 1, .aload_n 0, []), (14, 3, .sipush 400, []), (17, 2, .newarray .int, []), (19, 3, .putfield 15, [10, 1]), (22, 1, .aload_n 0, []), (23, 2, .bipush 20, []),
  (25, 2, .newarray .int, []), (27, 3, .putfield 18, [10, 2]), (30, 1, .aload_n 0, []), (31, 2, .bipush 20, []), (33, 2, .newarray .int, []), (35, 3, .putfield 21, [10, 3]),
  (38, 1, .aload_n 0, []), (39, 2, .bipush 64, []), (41, 2, .newarray .long, []), (43, 3, .putfield 24, [10, 4]), (46, 1, .return_, [])]
set_option maxRecDepth 20000 in
def k_X9_clear : List az_I := [
  (0, 1, .aload_n 0, []), (1, 1, .iconst 0, []), (2, 3, .putfield 28, [10, 5]), (5, 1, .aload_n 0, []), (6, 1, .iconst 0, []), (7, 3, .putfield 32, [10, 6]),
  (10, 1, .return_, [])]
set_option maxRecDepth 20000 in
def k_X9_add : List az_I := [
  (0, 1, .aload_n 0, []), (1, 3, .getfield 28, [10, 5]), (4, 3, .ifCond .lt 45, []), (7, 1, .aload_n 0, []), (8, 3, .getfield 28, [10, 5]), (11, 1, .aload_n 0, []),
  (12, 3, .getfield 9, [10, 0]), (15, 1, .arraylength, []), (16, 3, .if_icmp .ge 33, []), (19, 1, .aload_n 0, []), (20, 3, .getfield 9, [10, 0]), (23, 1, .aload_n 0, []),
  (24, 3, .getfield 28, [10, 5]), (27, 1, .iload_n 1, []), (28, 1, .iastore, []), (29, 1, .aload_n 0, []), (30, 3, .getfield 15, [10, 1]), (33, 1, .aload_n 0, []),
  (34, 3, .getfield 28, [10, 5]), (37, 1, .iload_n 2, []), (38, 1, .iastore, []), (39, 1, .aload_n 0, []), (40, 1, .dup, []), (41, 3, .getfield 28, [10, 5]),
  (44, 1, .iconst 1, []), (45, 1, .iadd, []), (46, 3, .putfield 28, [10, 5]), (49, 1, .return_, [])]
set_option maxRecDepth 20000 in
def k_X9_endAsk : List az_I := [
  (0, 1, .aload_n 0, []), (1, 3, .getfield 32, [10, 6]), (4, 3, .ifCond .lt 28, []), (7, 1, .aload_n 0, []), (8, 3, .getfield 32, [10, 6]), (11, 1, .aload_n 0, []),
  (12, 3, .getfield 18, [10, 2]), (15, 1, .arraylength, []), (16, 3, .if_icmp .ge 16, []), (19, 1, .aload_n 0, []), (20, 3, .getfield 18, [10, 2]), (23, 1, .aload_n 0, []),
  (24, 3, .getfield 32, [10, 6]), (27, 1, .aload_n 0, []), (28, 3, .getfield 28, [10, 5]), (31, 1, .iastore, []), (32, 1, .return_, [])]
set_option maxRecDepth 20000 in
def k_X9_endRule : List az_I := [
  (0, 1, .aload_n 0, []), (1, 3, .getfield 32, [10, 6]), (4, 3, .ifCond .lt 38, []), (7, 1, .aload_n 0, []), (8, 3, .getfield 32, [10, 6]), (11, 1, .aload_n 0, []),
  (12, 3, .getfield 21, [10, 3]), (15, 1, .arraylength, []), (16, 3, .if_icmp .ge 26, []), (19, 1, .aload_n 0, []), (20, 3, .getfield 21, [10, 3]), (23, 1, .aload_n 0, []),
  (24, 3, .getfield 32, [10, 6]), (27, 1, .aload_n 0, []), (28, 3, .getfield 28, [10, 5]), (31, 1, .iastore, []), (32, 1, .aload_n 0, []), (33, 1, .dup, []),
  (34, 3, .getfield 32, [10, 6]), (37, 1, .iconst 1, []), (38, 1, .iadd, []), (39, 3, .putfield 32, [10, 6]), (42, 1, .return_, [])]
set_option maxRecDepth 20000 in
def k_X9_answer : List az_I := [
  (0, 1, .iconst 0, []), (1, 1, .istore_n 2, []), (2, 1, .iconst 0, []), (3, 1, .istore_n 3, []), (4, 1, .iload_n 3, []), (5, 1, .aload_n 0, []),
  (6, 3, .getfield 32, [10, 6]), (9, 3, .if_icmp .ge 83, []), (12, 1, .iload_n 3, []), (13, 1, .aload_n 0, []), (14, 3, .getfield 21, [10, 3]), (17, 1, .arraylength, []),
  (18, 3, .if_icmp .ge 74, []), (21, 1, .aload_n 0, []), (22, 3, .getfield 18, [10, 2]), (25, 1, .iload_n 3, []), (26, 1, .iaload, []), (27, 1, .iload_n 2, []),
  (28, 3, .if_icmp .ne 7, []), (31, 1, .iconst 1, []), (32, 3, .goto 4, []), (35, 1, .iconst 0, []), (36, 2, .istore 4, []), (38, 2, .iload 4, []),
  (40, 3, .ifCond .ne 20, []), (43, 1, .aload_n 0, []), (44, 1, .iload_n 2, []), (45, 1, .aload_n 0, []), (46, 3, .getfield 18, [10, 2]), (49, 1, .iload_n 3, []),
  (50, 1, .iaload, []), (51, 1, .aload_n 1, []), (52, 3, .invokevirtual 35, [0, 81, 4, 10]), (55, 1, .lconst 0, []), (56, 1, .lcmp, []), (57, 3, .ifCond .eq 22, []),
  (60, 1, .aload_n 0, []), (61, 1, .aload_n 0, []), (62, 3, .getfield 18, [10, 2]), (65, 1, .iload_n 3, []), (66, 1, .iaload, []), (67, 1, .aload_n 0, []),
  (68, 3, .getfield 21, [10, 3]), (71, 1, .iload_n 3, []), (72, 1, .iaload, []), (73, 1, .aload_n 1, []), (74, 3, .invokevirtual 35, [0, 81, 4, 10]), (77, 1, .l2i, []),
  (78, 1, .ireturn, []), (79, 1, .aload_n 0, []), (80, 3, .getfield 21, [10, 3]), (83, 1, .iload_n 3, []), (84, 1, .iaload, []), (85, 1, .istore_n 2, []),
  (86, 3, .iinc 3 1, []), (89, 3, .goto (-85), []), (92, 1, .iconst 0, []), (93, 1, .ireturn, [])]
set_option maxRecDepth 20000 in
def k_X9_run : List az_I := [
  (0, 1, .iconst 0, []), (1, 2, .istore 4, []), (3, 1, .iconst 0, []), (4, 1, .iload_n 1, []), (5, 3, .invokestatic 39, [0, 255, 2, 999]), (8, 2, .istore 5, []),
  (10, 2, .iload 5, []), (12, 1, .iload_n 2, []), (13, 3, .if_icmp .ge 191, []), (16, 2, .iload 5, []), (18, 1, .aload_n 0, []), (19, 3, .getfield 28, [10, 5]),
  (22, 3, .if_icmp .ge 182, []), (25, 1, .aload_n 0, []), (26, 3, .getfield 9, [10, 0]), (29, 2, .iload 5, []), (31, 1, .iaload, []), (32, 2, .istore 6, []),
  (34, 2, .iload 6, []), (36, 1, .iconst 2, []), (37, 3, .if_icmp .eq 9, []), (40, 2, .iload 6, []), (42, 1, .iconst 3, []), (43, 3, .if_icmp .ne 54, []),
  (46, 2, .iload 4, []), (48, 1, .aload_n 0, []), (49, 3, .getfield 24, [10, 4]), (52, 1, .arraylength, []), (53, 3, .if_icmp .ge 145, []), (56, 1, .aload_n 0, []),
  (57, 3, .getfield 24, [10, 4]), (60, 2, .iload 4, []), (62, 2, .iload 6, []), (64, 1, .iconst 2, []), (65, 3, .if_icmp .ne 14, []), (68, 1, .aload_n 0, []),
  (69, 3, .getfield 15, [10, 1]), (72, 2, .iload 5, []), (74, 1, .iaload, []), (75, 1, .i2l, []), (76, 3, .goto 14, []), (79, 1, .aload_n 3, []),
  (80, 1, .aload_n 0, []), (81, 3, .getfield 15, [10, 1]), (84, 2, .iload 5, []), (86, 1, .iaload, []), (87, 3, .invokestatic 47, [0, 82, 2, 999]), (90, 1, .lastore, []),
  (91, 3, .iinc 4 1, []), (94, 3, .goto 104, []), (97, 2, .iload 6, []), (99, 2, .bipush 8, []), (101, 3, .if_icmp .eq 10, []), (104, 2, .iload 6, []),
  (106, 2, .bipush 27, []), (108, 3, .if_icmp .ne 51, []), (111, 2, .iload 4, []), (113, 3, .ifCond .le 85, []), (116, 1, .aload_n 0, []), (117, 3, .getfield 24, [10, 4]),
  (120, 2, .iload 4, []), (122, 1, .iconst 1, []), (123, 1, .isub, []), (124, 2, .iload 6, []), (126, 2, .bipush 8, []), (128, 3, .if_icmp .ne 17, []),
  (131, 1, .lconst 1, []), (132, 1, .aload_n 0, []), (133, 3, .getfield 24, [10, 4]), (136, 2, .iload 4, []), (138, 1, .iconst 1, []), (139, 1, .isub, []),
  (140, 1, .laload, []), (141, 1, .lsub, []), (142, 3, .goto 13, []), (145, 1, .aload_n 0, []), (146, 3, .getfield 24, [10, 4]), (149, 2, .iload 4, []),
  (151, 1, .iconst 1, []), (152, 1, .isub, []), (153, 1, .laload, []), (154, 1, .lneg, []), (155, 1, .lastore, []), (156, 3, .goto 42, []),
  (159, 2, .iload 4, []), (161, 1, .iconst 1, []), (162, 3, .if_icmp .le 36, []), (165, 3, .iinc 4 (-1), []), (168, 1, .aload_n 0, []), (169, 3, .getfield 24, [10, 4]),
  (172, 2, .iload 4, []), (174, 1, .iconst 1, []), (175, 1, .isub, []), (176, 2, .iload 6, []), (178, 1, .aload_n 0, []), (179, 3, .getfield 24, [10, 4]),
  (182, 2, .iload 4, []), (184, 1, .iconst 1, []), (185, 1, .isub, []), (186, 1, .laload, []), (187, 1, .aload_n 0, []), (188, 3, .getfield 24, [10, 4]),
  (191, 2, .iload 4, []), (193, 1, .laload, []), (194, 3, .invokestatic 51, [0, 83, 3, 999]), (197, 1, .lastore, []), (198, 3, .iinc 5 1, []), (201, 3, .goto (-191), []),
  (204, 2, .iload 4, []), (206, 3, .ifCond .le 12, []), (209, 1, .aload_n 0, []), (210, 3, .getfield 24, [10, 4]), (213, 1, .iconst 0, []), (214, 1, .laload, []),
  (215, 3, .goto 4, []), (218, 1, .lconst 0, []), (219, 1, .lreturn, [])]
set_option maxRecDepth 20000 in
def k_X9_valueOf : List az_I := [
  (0, 1, .aload_n 0, []), (1, 3, .ifnull 20, []), (4, 1, .iload_n 1, []), (5, 3, .ifCond .lt 16, []), (8, 1, .iload_n 1, []), (9, 1, .aload_n 0, []),
  (10, 1, .arraylength, []), (11, 3, .if_icmp .ge 10, []), (14, 1, .aload_n 0, []), (15, 1, .iload_n 1, []), (16, 1, .iaload, []), (17, 1, .i2l, []),
  (18, 3, .goto 4, []), (21, 1, .lconst 0, []), (22, 1, .lreturn, [])]
set_option maxRecDepth 20000 in
def k_X9_join : List az_I := [
  (0, 1, .iload_n 0, []), (1, 75, .tableswitch 202 6 20 #[198, 194, 202, 110, 116, 122, 134, 146, 158, 170, 182, 75, 82, 89, 96], []), (76, 1, .lload_n 1, []), (77, 1, .lload_n 3, []), (78, 1, .ladd, []), (79, 3, .invokestatic 55, [0, 84, 1, 999]),
  (82, 1, .lreturn, []), (83, 1, .lload_n 1, []), (84, 1, .lload_n 3, []), (85, 1, .lsub, []), (86, 3, .invokestatic 55, [0, 84, 1, 999]), (89, 1, .lreturn, []),
  (90, 1, .lload_n 1, []), (91, 1, .lload_n 3, []), (92, 1, .lmul, []), (93, 3, .invokestatic 55, [0, 84, 1, 999]), (96, 1, .lreturn, []), (97, 1, .lload_n 3, []),
  (98, 1, .lconst 0, []), (99, 1, .lcmp, []), (100, 3, .ifCond .ne 7, []), (103, 1, .lconst 0, []), (104, 3, .goto 6, []), (107, 1, .lload_n 1, []),
  (108, 1, .lload_n 3, []), (109, 1, .ldiv, []), (110, 1, .lreturn, []), (111, 1, .lload_n 1, []), (112, 1, .lload_n 3, []), (113, 3, .invokestatic 59, [0, 258, 2, 999]),
  (116, 1, .lreturn, []), (117, 1, .lload_n 1, []), (118, 1, .lload_n 3, []), (119, 3, .invokestatic 63, [0, 256, 2, 999]), (122, 1, .lreturn, []), (123, 1, .lload_n 1, []),
  (124, 1, .lload_n 3, []), (125, 1, .lcmp, []), (126, 3, .ifCond .ge 7, []), (129, 1, .lconst 1, []), (130, 3, .goto 4, []), (133, 1, .lconst 0, []),
  (134, 1, .lreturn, []), (135, 1, .lload_n 1, []), (136, 1, .lload_n 3, []), (137, 1, .lcmp, []), (138, 3, .ifCond .gt 7, []), (141, 1, .lconst 1, []),
  (142, 3, .goto 4, []), (145, 1, .lconst 0, []), (146, 1, .lreturn, []), (147, 1, .lload_n 1, []), (148, 1, .lload_n 3, []), (149, 1, .lcmp, []),
  (150, 3, .ifCond .le 7, []), (153, 1, .lconst 1, []), (154, 3, .goto 4, []), (157, 1, .lconst 0, []), (158, 1, .lreturn, []), (159, 1, .lload_n 1, []),
  (160, 1, .lload_n 3, []), (161, 1, .lcmp, []), (162, 3, .ifCond .lt 7, []), (165, 1, .lconst 1, []), (166, 3, .goto 4, []), (169, 1, .lconst 0, []),
  (170, 1, .lreturn, []), (171, 1, .lload_n 1, []), (172, 1, .lload_n 3, []), (173, 1, .lcmp, []), (174, 3, .ifCond .ne 7, []), (177, 1, .lconst 1, []),
  (178, 3, .goto 4, []), (181, 1, .lconst 0, []), (182, 1, .lreturn, []), (183, 1, .lload_n 1, []), (184, 1, .lload_n 3, []), (185, 1, .lcmp, []),
  (186, 3, .ifCond .eq 7, []), (189, 1, .lconst 1, []), (190, 3, .goto 4, []), (193, 1, .lconst 0, []), (194, 1, .lreturn, []), (195, 1, .lload_n 1, []),
  (196, 1, .lload_n 3, []), (197, 1, .land, []), (198, 1, .lreturn, []), (199, 1, .lload_n 1, []), (200, 1, .lload_n 3, []), (201, 1, .lor, []),
  (202, 1, .lreturn, []), (203, 1, .lconst 0, []), (204, 1, .lreturn, [])]
set_option maxRecDepth 20000 in
def k_X9_bounded : List az_I := [
  (0, 1, .lload_n 0, []), (1, 3, .ldc2_w 65, [1000000000]), (4, 1, .lcmp, []), (5, 3, .ifCond .le 7, []), (8, 3, .ldc2_w 65, [1000000000]), (11, 1, .lreturn, []),
  (12, 1, .lload_n 0, []), (13, 3, .ldc2_w 67, [18446744072709551616]), (16, 1, .lcmp, []), (17, 3, .ifCond .ge 9, []), (20, 3, .ldc2_w 67, [18446744072709551616]), (23, 3, .goto 4, []),
  (26, 1, .lload_n 0, []), (27, 1, .lreturn, [])]
set_option maxRecDepth 20000 in
def k_X10_init : List az_I := [
  (0, 1, .aload_n 0, []), (1, 3, .invokespecial 3, [1, 2, 3]), (4, 1, .aload_n 0, []), (5, 2, .bipush 41, []), (7, 2, .newarray .int, []), (9, 3, .putfield 9, [11, 7]),
  (12, 1, .aload_n 0, []), (13, 2, .bipush 41, []), (15, 2, .newarray .int, []), (17, 3, .putfield 15, [11, 8]), (20, 1, .aload_n 0, []), (21, 2, .bipush 41, []),
  (23, 2, .newarray .int, []), (25, 3, .putfield 18, [11, 9]), (28, 1, .aload_n 0, []), (29, 1, .iconst (-1), []), (30, 3, .putfield 21, [11, 11]), (33, 1, .aload_n 0, []),
  (34, 1, .iconst (-1), []), (35, 3, .putfield 25, [11, 12]), (38, 1, .aload_n 0, []), (39, 1, .iconst (-1), []), (40, 3, .putfield 28, [11, 13]), (43, 1, .aload_n 0, []),
  (44, 1, .iload_n 1, []), (45, 3, .putfield 31, [11, 0]), (48, 1, .aload_n 0, []), (49, 1, .iload_n 2, []), (50, 3, .putfield 34, [11, 1]), (53, 1, .aload_n 0, []),
  (54, 1, .iload_n 3, []), (55, 3, .putfield 37, [11, 2]), (58, 1, .aload_n 0, []), (59, 2, .iload 4, []), (61, 3, .putfield 40, [11, 3]), (64, 1, .return_, [])]
set_option maxRecDepth 20000 in
def k_X10_tell : List az_I := [
  (0, 1, .aload_n 0, []), (1, 3, .getfield 43, [11, 10]), (4, 3, .ifCond .lt 55, []), (7, 1, .aload_n 0, []), (8, 3, .getfield 43, [11, 10]), (11, 1, .aload_n 0, []),
  (12, 3, .getfield 9, [11, 7]), (15, 1, .arraylength, []), (16, 3, .if_icmp .ge 43, []), (19, 1, .aload_n 0, []), (20, 3, .getfield 9, [11, 7]), (23, 1, .aload_n 0, []),
  (24, 3, .getfield 43, [11, 10]), (27, 1, .iload_n 1, []), (28, 1, .iastore, []), (29, 1, .aload_n 0, []), (30, 3, .getfield 15, [11, 8]), (33, 1, .aload_n 0, []),
  (34, 3, .getfield 43, [11, 10]), (37, 1, .iload_n 2, []), (38, 1, .iastore, []), (39, 1, .aload_n 0, []), (40, 3, .getfield 18, [11, 9]), (43, 1, .aload_n 0, []),
  (44, 3, .getfield 43, [11, 10]), (47, 1, .iload_n 3, []), (48, 1, .iastore, []), (49, 1, .aload_n 0, []), (50, 1, .dup, []), (51, 3, .getfield 43, [11, 10]),
  (54, 1, .iconst 1, []), (55, 1, .iadd, []), (56, 3, .putfield 43, [11, 10]), (59, 1, .return_, [])]
set_option maxRecDepth 20000 in
def k_X10_forgetLast : List az_I := [
  (0, 1, .aload_n 0, []), (1, 3, .getfield 43, [11, 10]), (4, 3, .ifCond .le 13, []), (7, 1, .aload_n 0, []), (8, 1, .dup, []), (9, 3, .getfield 43, [11, 10]),
  (12, 1, .iconst 1, []), (13, 1, .isub, []), (14, 3, .putfield 43, [11, 10]), (17, 1, .return_, [])]
set_option maxRecDepth 20000 in
def k_X10_entryValue : List az_I := [
  (0, 1, .iload_n 1, []), (1, 3, .ifCond .lt 20, []), (4, 1, .iload_n 1, []), (5, 1, .aload_n 0, []), (6, 3, .getfield 43, [11, 10]), (9, 3, .if_icmp .ge 12, []),
  (12, 1, .iload_n 1, []), (13, 1, .aload_n 0, []), (14, 3, .getfield 9, [11, 7]), (17, 1, .arraylength, []), (18, 3, .if_icmp .lt 5, []), (21, 1, .iconst (-1), []),
  (22, 1, .ireturn, []), (23, 1, .iload_n 2, []), (24, 28, .tableswitch 49 0 2 #[28, 35, 42], []), (52, 1, .aload_n 0, []), (53, 3, .getfield 9, [11, 7]), (56, 1, .iload_n 1, []),
  (57, 1, .iaload, []), (58, 1, .ireturn, []), (59, 1, .aload_n 0, []), (60, 3, .getfield 15, [11, 8]), (63, 1, .iload_n 1, []), (64, 1, .iaload, []),
  (65, 1, .ireturn, []), (66, 1, .aload_n 0, []), (67, 3, .getfield 18, [11, 9]), (70, 1, .iload_n 1, []), (71, 1, .iaload, []), (72, 1, .ireturn, []),
  (73, 1, .iconst (-1), []), (74, 1, .ireturn, [])]
set_option maxRecDepth 20000 in
def k_X10_hasFallen : List az_I := [
  (0, 1, .aload_n 0, []), (1, 3, .getfield 21, [11, 11]), (4, 1, .iconst (-1), []), (5, 3, .if_icmp .eq 7, []), (8, 1, .iconst 1, []), (9, 3, .goto 4, []),
  (12, 1, .iconst 0, []), (13, 1, .ireturn, [])]
set_option maxRecDepth 20000 in
def k_X10_heightOn : List az_I := [
  (0, 1, .aload_n 0, []), (1, 3, .invokevirtual 46, [0, 89, 1, 11]), (4, 3, .ifCond .eq 23, []), (7, 1, .aload_n 0, []), (8, 3, .getfield 21, [11, 11]), (11, 1, .iload_n 1, []),
  (12, 3, .if_icmp .gt 15, []), (15, 1, .aload_n 0, []), (16, 3, .getfield 25, [11, 12]), (19, 1, .iload_n 2, []), (20, 3, .if_icmp .gt 7, []), (23, 1, .iconst 1, []),
  (24, 3, .goto 4, []), (27, 1, .iconst 0, []), (28, 1, .istore_n 3, []), (29, 1, .aload_n 0, []), (30, 3, .getfield 40, [11, 3]), (33, 1, .iload_n 1, []),
  (34, 3, .if_icmp .gt 15, []), (37, 1, .aload_n 0, []), (38, 3, .getfield 40, [11, 3]), (41, 1, .iload_n 2, []), (42, 3, .if_icmp .gt 7, []), (45, 1, .iload_n 3, []),
  (46, 3, .ifCond .eq 5, []), (49, 1, .iconst (-1), []), (50, 1, .ireturn, []), (51, 1, .aload_n 0, []), (52, 1, .iload_n 1, []), (53, 1, .iload_n 2, []),
  (54, 3, .invokevirtual 50, [0, 91, 3, 11]), (57, 2, .istore 4, []), (59, 2, .iload 4, []), (61, 3, .ifCond .lt 13, []), (64, 2, .iload 4, []), (66, 1, .aload_n 0, []),
  (67, 3, .getfield 9, [11, 7]), (70, 1, .arraylength, []), (71, 3, .if_icmp .lt 5, []), (74, 1, .iconst (-1), []), (75, 1, .ireturn, []), (76, 2, .bipush 60, []),
  (78, 1, .aload_n 0, []), (79, 3, .getfield 15, [11, 8]), (82, 2, .iload 4, []), (84, 1, .iaload, []), (85, 1, .aload_n 0, []), (86, 1, .aload_n 0, []),
  (87, 3, .getfield 9, [11, 7]), (90, 2, .iload 4, []), (92, 1, .iaload, []), (93, 1, .iload_n 1, []), (94, 3, .invokevirtual 54, [0, 92, 3, 11]), (97, 1, .iadd, []),
  (98, 3, .invokestatic 57, [0, 257, 2, 999]), (101, 1, .ireturn, [])]
set_option maxRecDepth 20000 in
def k_X10_entryFor : List az_I := [
  (0, 1, .iconst (-1), []), (1, 1, .istore_n 3, []), (2, 1, .iconst (-1), []), (3, 2, .istore 4, []), (5, 1, .iconst 0, []), (6, 2, .istore 5, []),
  (8, 2, .iload 5, []), (10, 1, .aload_n 0, []), (11, 3, .getfield 43, [11, 10]), (14, 3, .if_icmp .ge 65, []), (17, 2, .iload 5, []), (19, 1, .aload_n 0, []),
  (20, 3, .getfield 9, [11, 7]), (23, 1, .arraylength, []), (24, 3, .if_icmp .ge 55, []), (27, 1, .aload_n 0, []), (28, 3, .getfield 18, [11, 9]), (31, 2, .iload 5, []),
  (33, 1, .iaload, []), (34, 1, .iload_n 2, []), (35, 3, .if_icmp .gt 38, []), (38, 1, .aload_n 0, []), (39, 3, .getfield 9, [11, 7]), (42, 2, .iload 5, []),
  (44, 1, .iaload, []), (45, 1, .iload_n 1, []), (46, 3, .if_icmp .gt 27, []), (49, 1, .aload_n 0, []), (50, 3, .getfield 9, [11, 7]), (53, 2, .iload 5, []),
  (55, 1, .iaload, []), (56, 2, .iload 4, []), (58, 3, .if_icmp .lt 15, []), (61, 2, .iload 5, []), (63, 1, .istore_n 3, []), (64, 1, .aload_n 0, []),
  (65, 3, .getfield 9, [11, 7]), (68, 2, .iload 5, []), (70, 1, .iaload, []), (71, 2, .istore 4, []), (73, 3, .iinc 5 1, []), (76, 3, .goto (-68), []),
  (79, 1, .iload_n 3, []), (80, 1, .ireturn, [])]
set_option maxRecDepth 20000 in
def k_X10_grownBetween : List az_I := [
  (0, 1, .aload_n 0, []), (1, 3, .getfield 62, [11, 4]), (4, 3, .ifCond .le 14, []), (7, 1, .iload_n 2, []), (8, 1, .iload_n 1, []), (9, 1, .isub, []),
  (10, 1, .aload_n 0, []), (11, 3, .getfield 62, [11, 4]), (14, 1, .idiv, []), (15, 3, .goto 4, []), (18, 1, .iconst 0, []), (19, 1, .ireturn, [])]
set_option maxRecDepth 20000 in
def k_X10_mend : List az_I := [
  (0, 1, .aload_n 0, []), (1, 3, .getfield 28, [11, 13]), (4, 1, .iconst (-1), []), (5, 3, .if_icmp .ne 10, []), (8, 1, .aload_n 0, []), (9, 3, .getfield 40, [11, 3]),
  (12, 3, .goto 9, []), (15, 1, .aload_n 0, []), (16, 3, .getfield 28, [11, 13]), (19, 1, .iconst 1, []), (20, 1, .iadd, []), (21, 1, .istore_n 3, []),
  (22, 1, .aload_n 0, []), (23, 1, .iload_n 2, []), (24, 1, .iload_n 2, []), (25, 3, .invokevirtual 50, [0, 91, 3, 11]), (28, 2, .istore 4, []), (30, 2, .iload 4, []),
  (32, 3, .ifCond .lt 25, []), (35, 2, .iload 4, []), (37, 1, .aload_n 0, []), (38, 3, .getfield 9, [11, 7]), (41, 1, .arraylength, []), (42, 3, .if_icmp .ge 15, []),
  (45, 1, .iload_n 3, []), (46, 1, .aload_n 0, []), (47, 3, .getfield 9, [11, 7]), (50, 2, .iload 4, []), (52, 1, .iaload, []), (53, 3, .invokestatic 65, [0, 255, 2, 999]),
  (56, 1, .istore_n 3, []), (57, 1, .aload_n 0, []), (58, 1, .iload_n 3, []), (59, 1, .iconst 0, []), (60, 1, .iload_n 1, []), (61, 1, .aload_n 0, []),
  (62, 1, .iload_n 3, []), (63, 1, .iload_n 2, []), (64, 3, .invokevirtual 54, [0, 92, 3, 11]), (67, 1, .isub, []), (68, 3, .invokestatic 65, [0, 255, 2, 999]), (71, 1, .iload_n 2, []),
  (72, 3, .invokevirtual 68, [0, 86, 4, 11]), (75, 1, .return_, [])]
set_option maxRecDepth 20000 in
def k_X11_init : List az_I := [
  (0, 1, .aload_n 0, []), (1, 3, .invokespecial 1, [1, 2, 3]), (4, 1, .aload_n 0, []), (5, 3, .new 7, [7]), (8, 1, .dup, []), (9, 3, .invokespecial 9, [0, 46, 1, 7]),
  (12, 3, .putfield 10, [12, 1]), (15, 1, .aload_n 0, []), (16, 3, .new 16, [0]), (19, 1, .dup, []), (20, 3, .invokespecial 18, [0, 267, 1, 0]), (23, 3, .putfield 19, [12, 2]),
  (26, 1, .aload_n 0, []), (27, 3, .new 16, [0]), (30, 1, .dup, []), (31, 3, .invokespecial 18, [0, 267, 1, 0]), (34, 3, .putfield 23, [12, 3]), (37, 1, .aload_n 0, []),
  (38, 3, .new 16, [0]), (41, 1, .dup, []), (42, 3, .invokespecial 18, [0, 267, 1, 0]), (45, 3, .putfield 26, [12, 4]), (48, 1, .aload_n 0, []), (49, 3, .new 16, [0]),
  (52, 1, .dup, []), (53, 3, .invokespecial 18, [0, 267, 1, 0]), (56, 3, .putfield 29, [12, 5]), (59, 1, .aload_n 0, []), (60, 3, .new 32, [9]), (63, 1, .dup, []),
  (64, 3, .invokespecial 34, [0, 57, 1, 9]), (67, 3, .putfield 35, [12, 7]), (70, 1, .aload_n 0, []), (71, 2, .bipush 8, []), (73, 2, .newarray .int, []), (75, 3, .putfield 39, [12, 10]),
  (78, 1, .aload_n 0, []), (79, 2, .bipush 24, []), (81, 2, .newarray .int, []), (83, 3, .putfield 43, [12, 11]), (86, 1, .aload_n 0, []), (87, 3, .new 46, [10]),
  (90, 1, .dup, []), (91, 3, .invokespecial 48, [0, 75, 1, 10]), (94, 3, .putfield 49, [12, 13]), (97, 1, .aload_n 0, []), (98, 3, .new 46, [10]), (101, 1, .dup, []),
  (102, 3, .invokespecial 48, [0, 75, 1, 10]), (105, 3, .putfield 53, [12, 14]), (108, 1, .aload_n 0, []), (109, 1, .iconst (-1), []), (110, 3, .putfield 56, [12, 16]), (113, 1, .aload_n 0, []),
  (114, 1, .iconst (-1), []), (115, 3, .putfield 60, [12, 17]), (118, 1, .aload_n 0, []), (119, 3, .new 63, [2]), (122, 1, .dup, []), (123, 1, .iload_n 1, []),
  (124, 1, .iload_n 2, []), (125, 3, .invokespecial 65, [0, 4, 3, 2]), (128, 3, .putfield 68, [12, 0]), (131, 1, .aload_n 0, []), (132, 3, .new 72, [6]), (135, 1, .dup, []),
  (136, 1, .aload_n 0, []), (137, 3, .getfield 68, [12, 0]), (140, 1, .aload_n 0, []), (141, 3, .getfield 10, [12, 1]), (144, 1, .aload_n 0, []), (145, 3, .getfield 23, [12, 3]),
  (148, 3, .invokespecial 74, [0, 36, 4, 6]), (151, 3, .putfield 77, [12, 6]), (154, 1, .aload_n 0, []), (155, 3, .new 81, [5]), (158, 1, .dup, []), (159, 1, .aload_n 0, []),
  (160, 3, .getfield 68, [12, 0]), (163, 3, .invokespecial 83, [0, 26, 2, 5]), (166, 3, .putfield 86, [12, 9]), (169, 1, .aload_n 0, []), (170, 3, .new 90, [3]), (173, 1, .dup, []),
  (174, 1, .aload_n 0, []), (175, 3, .getfield 35, [12, 7]), (178, 1, .aload_n 0, []), (179, 3, .getfield 53, [12, 14]), (182, 3, .invokespecial 92, [0, 10, 3, 3]), (185, 3, .putfield 95, [12, 8]),
  (188, 1, .aload_n 0, []), (189, 1, .aload_n 0, []), (190, 3, .getfield 68, [12, 0]), (193, 3, .getfield 99, [2, 2]), (196, 2, .newarray .int, []), (198, 3, .putfield 102, [12, 12]),
  (201, 1, .return_, [])]
set_option maxRecDepth 20000 in
def k_X11_days : List az_I := [
  (0, 1, .iload_n 1, []), (1, 1, .iconst 1, []), (2, 3, .if_icmp .lt 22, []), (5, 1, .iload_n 1, []), (6, 3, .sipush 400, []), (9, 3, .if_icmp .gt 15, []),
  (12, 1, .aload_n 0, []), (13, 3, .getfield 105, [12, 15]), (16, 1, .iload_n 1, []), (17, 1, .iadd, []), (18, 3, .sipush 3599, []), (21, 3, .if_icmp .le 5, []),
  (24, 1, .iconst (-1), []), (25, 1, .ireturn, []), (26, 1, .aload_n 0, []), (27, 1, .dup, []), (28, 3, .getfield 105, [12, 15]), (31, 1, .iload_n 1, []),
  (32, 1, .iadd, []), (33, 3, .putfield 105, [12, 15]), (36, 1, .aload_n 0, []), (37, 3, .getfield 105, [12, 15]), (40, 1, .ireturn, [])]
