/-! The program's tables: each method's instructions by their places (sixteen places to a row), with numbers of fields, methods, constants; printed by wip/p1/gen.py. -/
/-- Carriage.<init> -/
def et_0 : List (List ex_I) := [[(0, .aload_n 0, 1, 0, 0, 0), (1, .invokespecial 3, 3, 0, 0, 1), (4, .aload_n 0, 1, 0, 0, 0), (5, .bipush 11, 2, 0, 0, 0), (7, .newarray .int, 2, 0, 0, 0), (9, .putfield 9, 3, 0, 0, 3), (12, .aload_n 0, 1, 0, 0, 0), (13, .bipush 8, 2, 0, 0, 0), (15, .newarray .int, 2, 0, 0, 0)],
  [(17, .putfield 15, 3, 0, 1, 3), (20, .aload_n 0, 1, 0, 0, 0), (21, .bipush 8, 2, 0, 0, 0), (23, .newarray .int, 2, 0, 0, 0), (25, .putfield 18, 3, 0, 2, 3), (28, .aload_n 0, 1, 0, 0, 0), (29, .bipush 8, 2, 0, 0, 0), (31, .newarray .int, 2, 0, 0, 0)],
  [(33, .putfield 21, 3, 0, 3, 3), (36, .aload_n 0, 1, 0, 0, 0), (37, .bipush 8, 2, 0, 0, 0), (39, .newarray .int, 2, 0, 0, 0), (41, .putfield 24, 3, 0, 4, 3), (44, .aload_n 0, 1, 0, 0, 0), (45, .bipush 24, 2, 0, 0, 0), (47, .newarray .int, 2, 0, 0, 0)],
  [(49, .putfield 27, 3, 0, 5, 3), (52, .aload_n 0, 1, 0, 0, 0), (53, .bipush 24, 2, 0, 0, 0), (55, .newarray .int, 2, 0, 0, 0), (57, .putfield 30, 3, 0, 6, 3), (60, .aload_n 0, 1, 0, 0, 0), (61, .bipush 24, 2, 0, 0, 0), (63, .newarray .int, 2, 0, 0, 0)],
  [(65, .putfield 33, 3, 0, 7, 3), (68, .aload_n 0, 1, 0, 0, 0), (69, .bipush 8, 2, 0, 0, 0), (71, .newarray .int, 2, 0, 0, 0), (73, .putfield 36, 3, 0, 8, 3), (76, .aload_n 0, 1, 0, 0, 0), (77, .bipush 8, 2, 0, 0, 0), (79, .newarray .int, 2, 0, 0, 0)],
  [(81, .putfield 39, 3, 0, 9, 3), (84, .aload_n 0, 1, 0, 0, 0), (85, .bipush 8, 2, 0, 0, 0), (87, .newarray .int, 2, 0, 0, 0), (89, .putfield 42, 3, 0, 10, 3), (92, .aload_n 0, 1, 0, 0, 0), (93, .bipush 8, 2, 0, 0, 0), (95, .newarray .int, 2, 0, 0, 0)],
  [(97, .putfield 45, 3, 0, 11, 3), (100, .aload_n 0, 1, 0, 0, 0), (101, .bipush 8, 2, 0, 0, 0), (103, .newarray .int, 2, 0, 0, 0), (105, .putfield 48, 3, 0, 12, 3), (108, .aload_n 0, 1, 0, 0, 0), (109, .iconst 4, 1, 0, 0, 0), (110, .iconst 3, 1, 0, 0, 0), (111, .multianewarray 51 2, 4, 0, 0, 0)],
  [(115, .putfield 53, 3, 0, 13, 3), (118, .aload_n 0, 1, 0, 0, 0), (119, .invokevirtual 56, 3, 0, 0, 0), (122, .return_, 1, 0, 0, 0)]]
/-- Carriage.reset -/
def et_1 : List (List ex_I) := [[(0, .getstatic 59, 3, 2, 0, 0), (3, .iconst 0, 1, 0, 0, 0), (4, .aload_n 0, 1, 0, 0, 0), (5, .getfield 9, 3, 0, 0, 3), (8, .iconst 0, 1, 0, 0, 0), (9, .bipush 11, 2, 0, 0, 0), (11, .invokestatic 62, 3, 0, 0, 1), (14, .iconst 0, 1, 0, 0, 0), (15, .istore_n 1, 1, 0, 0, 0)],
  [(16, .iload_n 1, 1, 0, 0, 0), (17, .bipush 8, 2, 0, 0, 0), (19, .if_icmp .ge 50, 3, 0, 0, 0), (22, .aload_n 0, 1, 0, 0, 0), (23, .getfield 15, 3, 0, 1, 3), (26, .iload_n 1, 1, 0, 0, 0), (27, .iconst 0, 1, 0, 0, 0), (28, .iastore, 1, 0, 0, 0), (29, .aload_n 0, 1, 0, 0, 0), (30, .getfield 18, 3, 0, 2, 3)],
  [(33, .iload_n 1, 1, 0, 0, 0), (34, .bipush 10, 2, 0, 0, 0), (36, .iastore, 1, 0, 0, 0), (37, .aload_n 0, 1, 0, 0, 0), (38, .getfield 21, 3, 0, 3, 3), (41, .iload_n 1, 1, 0, 0, 0), (42, .bipush 8, 2, 0, 0, 0), (44, .iastore, 1, 0, 0, 0), (45, .aload_n 0, 1, 0, 0, 0), (46, .getfield 24, 3, 0, 4, 3)],
  [(49, .iload_n 1, 1, 0, 0, 0), (50, .iload_n 1, 1, 0, 0, 0), (51, .bipush 7, 2, 0, 0, 0), (53, .if_icmp .ge 8, 3, 0, 0, 0), (56, .bipush 20, 2, 0, 0, 0), (58, .goto 4, 3, 0, 0, 0), (61, .iconst 0, 1, 0, 0, 0), (62, .iastore, 1, 0, 0, 0), (63, .iinc 1 1, 3, 0, 0, 0)],
  [(66, .goto (-50), 3, 0, 0, 0), (69, .iconst 0, 1, 0, 0, 0), (70, .istore_n 1, 1, 0, 0, 0), (71, .iload_n 1, 1, 0, 0, 0), (72, .bipush 24, 2, 0, 0, 0), (74, .if_icmp .ge 31, 3, 0, 0, 0), (77, .aload_n 0, 1, 0, 0, 0), (78, .getfield 27, 3, 0, 5, 3)],
  [(81, .iload_n 1, 1, 0, 0, 0), (82, .bipush (-100), 2, 0, 0, 0), (84, .iastore, 1, 0, 0, 0), (85, .aload_n 0, 1, 0, 0, 0), (86, .getfield 30, 3, 0, 6, 3), (89, .iload_n 1, 1, 0, 0, 0), (90, .iconst 0, 1, 0, 0, 0), (91, .iastore, 1, 0, 0, 0), (92, .aload_n 0, 1, 0, 0, 0), (93, .getfield 33, 3, 0, 7, 3)],
  [(96, .iload_n 1, 1, 0, 0, 0), (97, .iconst 0, 1, 0, 0, 0), (98, .iastore, 1, 0, 0, 0), (99, .iinc 1 1, 3, 0, 0, 0), (102, .goto (-31), 3, 0, 0, 0), (105, .aload_n 0, 1, 0, 0, 0), (106, .iconst 0, 1, 0, 0, 0), (107, .putfield 68, 3, 0, 14, 0), (110, .aload_n 0, 1, 0, 0, 0), (111, .iconst 0, 1, 0, 0, 0)],
  [(112, .putfield 72, 3, 0, 15, 0), (115, .aload_n 0, 1, 0, 0, 0), (116, .iconst 0, 1, 0, 0, 0), (117, .putfield 75, 3, 0, 16, 0), (120, .aload_n 0, 1, 0, 0, 0), (121, .iconst 0, 1, 0, 0, 0), (122, .putfield 78, 3, 0, 17, 0), (125, .aload_n 0, 1, 0, 0, 0), (126, .iconst 0, 1, 0, 0, 0), (127, .putfield 81, 3, 0, 18, 0)],
  [(130, .aload_n 0, 1, 0, 0, 0), (131, .iconst 1, 1, 0, 0, 0), (132, .putfield 84, 3, 0, 19, 1), (135, .return_, 1, 0, 0, 0)]]
/-- Carriage.become -/
def et_2 : List (List ex_I) := [[(0, .aload_n 1, 1, 0, 0, 0), (1, .getfield 9, 3, 0, 0, 3), (4, .iconst 0, 1, 0, 0, 0), (5, .aload_n 0, 1, 0, 0, 0), (6, .getfield 9, 3, 0, 0, 3), (9, .iconst 0, 1, 0, 0, 0), (10, .bipush 11, 2, 0, 0, 0), (12, .invokestatic 62, 3, 0, 0, 1), (15, .aload_n 1, 1, 0, 0, 0)],
  [(16, .getfield 15, 3, 0, 1, 3), (19, .iconst 0, 1, 0, 0, 0), (20, .aload_n 0, 1, 0, 0, 0), (21, .getfield 15, 3, 0, 1, 3), (24, .iconst 0, 1, 0, 0, 0), (25, .bipush 8, 2, 0, 0, 0), (27, .invokestatic 62, 3, 0, 0, 1), (30, .aload_n 1, 1, 0, 0, 0), (31, .getfield 18, 3, 0, 2, 3)],
  [(34, .iconst 0, 1, 0, 0, 0), (35, .aload_n 0, 1, 0, 0, 0), (36, .getfield 18, 3, 0, 2, 3), (39, .iconst 0, 1, 0, 0, 0), (40, .bipush 8, 2, 0, 0, 0), (42, .invokestatic 62, 3, 0, 0, 1), (45, .aload_n 1, 1, 0, 0, 0), (46, .getfield 21, 3, 0, 3, 3)],
  [(49, .iconst 0, 1, 0, 0, 0), (50, .aload_n 0, 1, 0, 0, 0), (51, .getfield 21, 3, 0, 3, 3), (54, .iconst 0, 1, 0, 0, 0), (55, .bipush 8, 2, 0, 0, 0), (57, .invokestatic 62, 3, 0, 0, 1), (60, .aload_n 1, 1, 0, 0, 0), (61, .getfield 24, 3, 0, 4, 3)],
  [(64, .iconst 0, 1, 0, 0, 0), (65, .aload_n 0, 1, 0, 0, 0), (66, .getfield 24, 3, 0, 4, 3), (69, .iconst 0, 1, 0, 0, 0), (70, .bipush 8, 2, 0, 0, 0), (72, .invokestatic 62, 3, 0, 0, 1), (75, .aload_n 1, 1, 0, 0, 0), (76, .getfield 27, 3, 0, 5, 3), (79, .iconst 0, 1, 0, 0, 0)],
  [(80, .aload_n 0, 1, 0, 0, 0), (81, .getfield 27, 3, 0, 5, 3), (84, .iconst 0, 1, 0, 0, 0), (85, .bipush 24, 2, 0, 0, 0), (87, .invokestatic 62, 3, 0, 0, 1), (90, .aload_n 1, 1, 0, 0, 0), (91, .getfield 30, 3, 0, 6, 3), (94, .iconst 0, 1, 0, 0, 0), (95, .aload_n 0, 1, 0, 0, 0)],
  [(96, .getfield 30, 3, 0, 6, 3), (99, .iconst 0, 1, 0, 0, 0), (100, .bipush 24, 2, 0, 0, 0), (102, .invokestatic 62, 3, 0, 0, 1), (105, .aload_n 1, 1, 0, 0, 0), (106, .getfield 33, 3, 0, 7, 3), (109, .iconst 0, 1, 0, 0, 0), (110, .aload_n 0, 1, 0, 0, 0), (111, .getfield 33, 3, 0, 7, 3)],
  [(114, .iconst 0, 1, 0, 0, 0), (115, .bipush 24, 2, 0, 0, 0), (117, .invokestatic 62, 3, 0, 0, 1), (120, .aload_n 1, 1, 0, 0, 0), (121, .getfield 36, 3, 0, 8, 3), (124, .iconst 0, 1, 0, 0, 0), (125, .aload_n 0, 1, 0, 0, 0), (126, .getfield 36, 3, 0, 8, 3)],
  [(129, .iconst 0, 1, 0, 0, 0), (130, .bipush 8, 2, 0, 0, 0), (132, .invokestatic 62, 3, 0, 0, 1), (135, .aload_n 1, 1, 0, 0, 0), (136, .getfield 39, 3, 0, 9, 3), (139, .iconst 0, 1, 0, 0, 0), (140, .aload_n 0, 1, 0, 0, 0), (141, .getfield 39, 3, 0, 9, 3)],
  [(144, .iconst 0, 1, 0, 0, 0), (145, .bipush 8, 2, 0, 0, 0), (147, .invokestatic 62, 3, 0, 0, 1), (150, .aload_n 1, 1, 0, 0, 0), (151, .getfield 42, 3, 0, 10, 3), (154, .iconst 0, 1, 0, 0, 0), (155, .aload_n 0, 1, 0, 0, 0), (156, .getfield 42, 3, 0, 10, 3), (159, .iconst 0, 1, 0, 0, 0)],
  [(160, .bipush 8, 2, 0, 0, 0), (162, .invokestatic 62, 3, 0, 0, 1), (165, .aload_n 1, 1, 0, 0, 0), (166, .getfield 45, 3, 0, 11, 3), (169, .iconst 0, 1, 0, 0, 0), (170, .aload_n 0, 1, 0, 0, 0), (171, .getfield 45, 3, 0, 11, 3), (174, .iconst 0, 1, 0, 0, 0), (175, .bipush 8, 2, 0, 0, 0)],
  [(177, .invokestatic 62, 3, 0, 0, 1), (180, .aload_n 1, 1, 0, 0, 0), (181, .getfield 48, 3, 0, 12, 3), (184, .iconst 0, 1, 0, 0, 0), (185, .aload_n 0, 1, 0, 0, 0), (186, .getfield 48, 3, 0, 12, 3), (189, .iconst 0, 1, 0, 0, 0), (190, .bipush 8, 2, 0, 0, 0)],
  [(192, .invokestatic 62, 3, 0, 0, 1), (195, .iconst 0, 1, 0, 0, 0), (196, .istore_n 2, 1, 0, 0, 0), (197, .iload_n 2, 1, 0, 0, 0), (198, .iconst 4, 1, 0, 0, 0), (199, .if_icmp .ge 27, 3, 0, 0, 0), (202, .aload_n 1, 1, 0, 0, 0), (203, .getfield 53, 3, 0, 13, 3), (206, .iload_n 2, 1, 0, 0, 0), (207, .aaload, 1, 0, 0, 0)],
  [(208, .iconst 0, 1, 0, 0, 0), (209, .aload_n 0, 1, 0, 0, 0), (210, .getfield 53, 3, 0, 13, 3), (213, .iload_n 2, 1, 0, 0, 0), (214, .aaload, 1, 0, 0, 0), (215, .iconst 0, 1, 0, 0, 0), (216, .iconst 3, 1, 0, 0, 0), (217, .invokestatic 62, 3, 0, 0, 1), (220, .iinc 2 1, 3, 0, 0, 0), (223, .goto (-26), 3, 0, 0, 0)],
  [(226, .aload_n 0, 1, 0, 0, 0), (227, .aload_n 1, 1, 0, 0, 0), (228, .getfield 68, 3, 0, 14, 0), (231, .putfield 68, 3, 0, 14, 0), (234, .aload_n 0, 1, 0, 0, 0), (235, .aload_n 1, 1, 0, 0, 0), (236, .getfield 72, 3, 0, 15, 0), (239, .putfield 72, 3, 0, 15, 0)],
  [(242, .aload_n 0, 1, 0, 0, 0), (243, .aload_n 1, 1, 0, 0, 0), (244, .getfield 75, 3, 0, 16, 0), (247, .putfield 75, 3, 0, 16, 0), (250, .aload_n 0, 1, 0, 0, 0), (251, .aload_n 1, 1, 0, 0, 0), (252, .getfield 78, 3, 0, 17, 0), (255, .putfield 78, 3, 0, 17, 0)],
  [(258, .aload_n 0, 1, 0, 0, 0), (259, .aload_n 1, 1, 0, 0, 0), (260, .getfield 81, 3, 0, 18, 0), (263, .putfield 81, 3, 0, 18, 0), (266, .aload_n 0, 1, 0, 0, 0), (267, .iconst 1, 1, 0, 0, 0), (268, .putfield 84, 3, 0, 19, 1), (271, .return_, 1, 0, 0, 0)]]
/-- Carriage.tellNumber -/
def et_3 : List (List ex_I) := [[(0, .iload_n 1, 1, 0, 0, 0), (1, .iconst 0, 1, 0, 0, 0), (2, .bipush 10, 2, 0, 0, 0), (4, .invokestatic 88, 3, 119, 3, 0), (7, .ifCond .eq 20, 3, 0, 0, 0), (10, .iload_n 2, 1, 0, 0, 0), (11, .getstatic 92, 3, 0, 0, 0), (14, .iload_n 1, 1, 0, 0, 0), (15, .iaload, 1, 0, 0, 0)],
  [(16, .getstatic 95, 3, 1, 0, 0), (19, .iload_n 1, 1, 0, 0, 0), (20, .iaload, 1, 0, 0, 0), (21, .invokestatic 88, 3, 119, 3, 0), (24, .ifCond .ne 6, 3, 0, 0, 0), (27, .ldc 98, 2, 0, 0, (-100000)), (29, .ireturn, 1, 0, 0, 0), (30, .aload_n 0, 1, 0, 0, 0), (31, .aload_n 0, 1, 0, 0, 0)],
  [(32, .getfield 9, 3, 0, 0, 3), (35, .iload_n 1, 1, 0, 0, 0), (36, .iload_n 2, 1, 0, 0, 0), (37, .invokevirtual 99, 3, 1, 3, 0), (40, .ireturn, 1, 0, 0, 0)]]
/-- Carriage.tellCell -/
def et_4 : List (List ex_I) := [[(0, .iload_n 1, 1, 0, 0, 0), (1, .iconst 0, 1, 0, 0, 0), (2, .bipush 7, 2, 0, 0, 0), (4, .invokestatic 88, 3, 119, 3, 0), (7, .ifCond .eq 37, 3, 0, 0, 0), (10, .iload_n 2, 1, 0, 0, 0), (11, .sipush (-300), 3, 0, 0, 0), (14, .sipush 300, 3, 0, 0, 0)],
  [(17, .invokestatic 88, 3, 119, 3, 0), (20, .ifCond .eq 24, 3, 0, 0, 0), (23, .iload_n 3, 1, 0, 0, 0), (24, .iconst 0, 1, 0, 0, 0), (25, .bipush 50, 2, 0, 0, 0), (27, .invokestatic 88, 3, 119, 3, 0), (30, .ifCond .eq 14, 3, 0, 0, 0)],
  [(33, .iload 4, 2, 0, 0, 0), (35, .iconst 0, 1, 0, 0, 0), (36, .bipush 8, 2, 0, 0, 0), (38, .invokestatic 88, 3, 119, 3, 0), (41, .ifCond .ne 6, 3, 0, 0, 0), (44, .ldc 98, 2, 0, 0, (-100000)), (46, .ireturn, 1, 0, 0, 0), (47, .aload_n 0, 1, 0, 0, 0)],
  [(48, .getfield 15, 3, 0, 1, 3), (51, .iload_n 1, 1, 0, 0, 0), (52, .iload_n 2, 1, 0, 0, 0), (53, .iastore, 1, 0, 0, 0), (54, .aload_n 0, 1, 0, 0, 0), (55, .getfield 18, 3, 0, 2, 3), (58, .iload_n 1, 1, 0, 0, 0), (59, .iload_n 3, 1, 0, 0, 0), (60, .iastore, 1, 0, 0, 0), (61, .aload_n 0, 1, 0, 0, 0), (62, .getfield 21, 3, 0, 3, 3)],
  [(65, .iload_n 1, 1, 0, 0, 0), (66, .iload 4, 2, 0, 0, 0), (68, .iastore, 1, 0, 0, 0), (69, .aload_n 0, 1, 0, 0, 0), (70, .iconst 1, 1, 0, 0, 0), (71, .putfield 84, 3, 0, 19, 1), (74, .iconst 1, 1, 0, 0, 0), (75, .ireturn, 1, 0, 0, 0)]]
/-- Carriage.tellPass -/
def et_5 : List (List ex_I) := [[(0, .iload_n 1, 1, 0, 0, 0), (1, .iconst 0, 1, 0, 0, 0), (2, .bipush 6, 2, 0, 0, 0), (4, .invokestatic 88, 3, 119, 3, 0), (7, .ifCond .eq 13, 3, 0, 0, 0), (10, .iload_n 2, 1, 0, 0, 0), (11, .iconst 0, 1, 0, 0, 0), (12, .bipush 40, 2, 0, 0, 0), (14, .invokestatic 88, 3, 119, 3, 0)],
  [(17, .ifCond .ne 6, 3, 0, 0, 0), (20, .ldc 98, 2, 0, 0, (-100000)), (22, .ireturn, 1, 0, 0, 0), (23, .aload_n 0, 1, 0, 0, 0), (24, .aload_n 0, 1, 0, 0, 0), (25, .getfield 24, 3, 0, 4, 3), (28, .iload_n 1, 1, 0, 0, 0), (29, .iload_n 2, 1, 0, 0, 0), (30, .invokevirtual 99, 3, 1, 3, 0)],
  [(33, .ireturn, 1, 0, 0, 0)]]
/-- Carriage.tellHung -/
def et_6 : List (List ex_I) := [[(0, .iload_n 1, 1, 0, 0, 0), (1, .iconst 0, 1, 0, 0, 0), (2, .bipush 6, 2, 0, 0, 0), (4, .invokestatic 88, 3, 119, 3, 0), (7, .ifCond .ne 6, 3, 0, 0, 0), (10, .ldc 98, 2, 0, 0, (-100000)), (12, .ireturn, 1, 0, 0, 0), (13, .aload_n 0, 1, 0, 0, 0), (14, .getfield 75, 3, 0, 16, 0)],
  [(17, .iload_n 1, 1, 0, 0, 0), (18, .invokestatic 103, 3, 15, 2, 0), (21, .iload_n 2, 1, 0, 0, 0), (22, .if_icmp .ne 6, 3, 0, 0, 0), (25, .ldc 107, 2, 0, 0, (-200000)), (27, .ireturn, 1, 0, 0, 0), (28, .aload_n 0, 1, 0, 0, 0), (29, .dup, 1, 0, 0, 0), (30, .getfield 75, 3, 0, 16, 0)],
  [(33, .iconst 1, 1, 0, 0, 0), (34, .iload_n 1, 1, 0, 0, 0), (35, .ishl, 1, 0, 0, 0), (36, .ixor, 1, 0, 0, 0), (37, .putfield 75, 3, 0, 16, 0), (40, .aload_n 0, 1, 0, 0, 0), (41, .iconst 1, 1, 0, 0, 0), (42, .putfield 84, 3, 0, 19, 1), (45, .iconst 1, 1, 0, 0, 0), (46, .ireturn, 1, 0, 0, 0)]]
/-- Carriage.tellCold -/
def et_7 : List (List ex_I) := [[(0, .iload_n 1, 1, 0, 0, 0), (1, .iconst 0, 1, 0, 0, 0), (2, .bipush 23, 2, 0, 0, 0), (4, .invokestatic 88, 3, 119, 3, 0), (7, .ifCond .eq 26, 3, 0, 0, 0), (10, .iload_n 2, 1, 0, 0, 0), (11, .iconst 1, 1, 0, 0, 0), (12, .bipush 24, 2, 0, 0, 0), (14, .invokestatic 88, 3, 119, 3, 0)],
  [(17, .ifCond .eq 16, 3, 0, 0, 0), (20, .iload_n 3, 1, 0, 0, 0), (21, .sipush (-400), 3, 0, 0, 0), (24, .sipush 200, 3, 0, 0, 0), (27, .invokestatic 88, 3, 119, 3, 0), (30, .ifCond .ne 6, 3, 0, 0, 0)],
  [(33, .ldc 98, 2, 0, 0, (-100000)), (35, .ireturn, 1, 0, 0, 0), (36, .iload_n 1, 1, 0, 0, 0), (37, .iload_n 2, 1, 0, 0, 0), (38, .iadd, 1, 0, 0, 0), (39, .bipush 24, 2, 0, 0, 0), (41, .invokestatic 108, 3, 208, 2, 0), (44, .istore 4, 2, 0, 0, 0), (46, .iload_n 1, 1, 0, 0, 0), (47, .istore 5, 2, 0, 0, 0)],
  [(49, .iload 5, 2, 0, 0, 0), (51, .iload 4, 2, 0, 0, 0), (53, .if_icmp .ge 17, 3, 0, 0, 0), (56, .aload_n 0, 1, 0, 0, 0), (57, .getfield 27, 3, 0, 5, 3), (60, .iload 5, 2, 0, 0, 0), (62, .iload_n 3, 1, 0, 0, 0), (63, .iastore, 1, 0, 0, 0)],
  [(64, .iinc 5 1, 3, 0, 0, 0), (67, .goto (-18), 3, 0, 0, 0), (70, .aload_n 0, 1, 0, 0, 0), (71, .iconst 1, 1, 0, 0, 0), (72, .putfield 84, 3, 0, 19, 1), (75, .iload 4, 2, 0, 0, 0), (77, .iload_n 1, 1, 0, 0, 0), (78, .isub, 1, 0, 0, 0), (79, .ireturn, 1, 0, 0, 0)]]
/-- Carriage.tellHelp -/
def et_8 : List (List ex_I) := [[(0, .iload_n 1, 1, 0, 0, 0), (1, .iconst 0, 1, 0, 0, 0), (2, .bipush 23, 2, 0, 0, 0), (4, .invokestatic 88, 3, 119, 3, 0), (7, .ifCond .eq 13, 3, 0, 0, 0), (10, .iload_n 2, 1, 0, 0, 0), (11, .iconst 0, 1, 0, 0, 0), (12, .bipush 9, 2, 0, 0, 0), (14, .invokestatic 88, 3, 119, 3, 0)],
  [(17, .ifCond .ne 6, 3, 0, 0, 0), (20, .ldc 98, 2, 0, 0, (-100000)), (22, .ireturn, 1, 0, 0, 0), (23, .aload_n 0, 1, 0, 0, 0), (24, .aload_n 0, 1, 0, 0, 0), (25, .getfield 30, 3, 0, 6, 3), (28, .iload_n 1, 1, 0, 0, 0), (29, .iload_n 2, 1, 0, 0, 0), (30, .invokevirtual 99, 3, 1, 3, 0)],
  [(33, .ireturn, 1, 0, 0, 0)]]
/-- Carriage.addMan -/
def et_9 : List (List ex_I) := [[(0, .iload_n 1, 1, 0, 0, 0), (1, .iconst 0, 1, 0, 0, 0), (2, .bipush 7, 2, 0, 0, 0), (4, .invokestatic 88, 3, 119, 3, 0), (7, .ifCond .eq 48, 3, 0, 0, 0), (10, .iload_n 2, 1, 0, 0, 0), (11, .iconst 0, 1, 0, 0, 0), (12, .bipush 20, 2, 0, 0, 0), (14, .invokestatic 88, 3, 119, 3, 0)],
  [(17, .ifCond .eq 38, 3, 0, 0, 0), (20, .iload_n 3, 1, 0, 0, 0), (21, .sipush (-300), 3, 0, 0, 0), (24, .sipush 300, 3, 0, 0, 0), (27, .invokestatic 88, 3, 119, 3, 0), (30, .ifCond .eq 25, 3, 0, 0, 0)],
  [(33, .iload 4, 2, 0, 0, 0), (35, .iconst 0, 1, 0, 0, 0), (36, .bipush 9, 2, 0, 0, 0), (38, .invokestatic 88, 3, 119, 3, 0), (41, .ifCond .eq 14, 3, 0, 0, 0), (44, .iload 5, 2, 0, 0, 0), (46, .iconst 0, 1, 0, 0, 0), (47, .bipush 100, 2, 0, 0, 0)],
  [(49, .invokestatic 88, 3, 119, 3, 0), (52, .ifCond .ne 6, 3, 0, 0, 0), (55, .ldc 98, 2, 0, 0, (-100000)), (57, .ireturn, 1, 0, 0, 0), (58, .aload_n 0, 1, 0, 0, 0), (59, .getfield 68, 3, 0, 14, 0), (62, .bipush 8, 2, 0, 0, 0)],
  [(64, .if_icmp .lt 6, 3, 0, 0, 0), (67, .ldc 114, 2, 0, 0, (-300000)), (69, .ireturn, 1, 0, 0, 0), (70, .aload_n 0, 1, 0, 0, 0), (71, .getfield 36, 3, 0, 8, 3), (74, .aload_n 0, 1, 0, 0, 0), (75, .getfield 68, 3, 0, 14, 0), (78, .iload_n 1, 1, 0, 0, 0), (79, .iastore, 1, 0, 0, 0)],
  [(80, .aload_n 0, 1, 0, 0, 0), (81, .getfield 39, 3, 0, 9, 3), (84, .aload_n 0, 1, 0, 0, 0), (85, .getfield 68, 3, 0, 14, 0), (88, .iload_n 2, 1, 0, 0, 0), (89, .iastore, 1, 0, 0, 0), (90, .aload_n 0, 1, 0, 0, 0), (91, .getfield 42, 3, 0, 10, 3), (94, .aload_n 0, 1, 0, 0, 0), (95, .getfield 68, 3, 0, 14, 0)],
  [(98, .iload_n 3, 1, 0, 0, 0), (99, .iastore, 1, 0, 0, 0), (100, .aload_n 0, 1, 0, 0, 0), (101, .getfield 45, 3, 0, 11, 3), (104, .aload_n 0, 1, 0, 0, 0), (105, .getfield 68, 3, 0, 14, 0), (108, .iload 4, 2, 0, 0, 0), (110, .iastore, 1, 0, 0, 0), (111, .aload_n 0, 1, 0, 0, 0)],
  [(112, .getfield 48, 3, 0, 12, 3), (115, .aload_n 0, 1, 0, 0, 0), (116, .getfield 68, 3, 0, 14, 0), (119, .iload 5, 2, 0, 0, 0), (121, .iastore, 1, 0, 0, 0), (122, .aload_n 0, 1, 0, 0, 0), (123, .iconst 1, 1, 0, 0, 0), (124, .putfield 84, 3, 0, 19, 1), (127, .aload_n 0, 1, 0, 0, 0)],
  [(128, .dup, 1, 0, 0, 0), (129, .getfield 68, 3, 0, 14, 0), (132, .dup_x1, 1, 0, 0, 0), (133, .iconst 1, 1, 0, 0, 0), (134, .iadd, 1, 0, 0, 0), (135, .putfield 68, 3, 0, 14, 0), (138, .ireturn, 1, 0, 0, 0)]]
/-- Carriage.tellCoat -/
def et_10 : List (List ex_I) := [[(0, .aload_n 0, 1, 0, 0, 0), (1, .iload_n 1, 1, 0, 0, 0), (2, .invokevirtual 115, 3, 2, 1, 0), (5, .ifCond .ne 6, 3, 0, 0, 0), (8, .ldc 98, 2, 0, 0, (-100000)), (10, .ireturn, 1, 0, 0, 0), (11, .aload_n 0, 1, 0, 0, 0), (12, .getfield 78, 3, 0, 17, 0), (15, .iload_n 1, 1, 0, 0, 0)],
  [(16, .invokestatic 103, 3, 15, 2, 0), (19, .iload_n 2, 1, 0, 0, 0), (20, .if_icmp .ne 6, 3, 0, 0, 0), (23, .ldc 107, 2, 0, 0, (-200000)), (25, .ireturn, 1, 0, 0, 0), (26, .aload_n 0, 1, 0, 0, 0), (27, .dup, 1, 0, 0, 0), (28, .getfield 78, 3, 0, 17, 0), (31, .iconst 1, 1, 0, 0, 0)],
  [(32, .iload_n 1, 1, 0, 0, 0), (33, .ishl, 1, 0, 0, 0), (34, .ixor, 1, 0, 0, 0), (35, .putfield 78, 3, 0, 17, 0), (38, .aload_n 0, 1, 0, 0, 0), (39, .iconst 1, 1, 0, 0, 0), (40, .putfield 84, 3, 0, 19, 1), (43, .iconst 1, 1, 0, 0, 0), (44, .ireturn, 1, 0, 0, 0)]]
/-- Carriage.addBreak -/
def et_11 : List (List ex_I) := [[(0, .iload_n 1, 1, 0, 0, 0), (1, .iconst 0, 1, 0, 0, 0), (2, .bipush 23, 2, 0, 0, 0), (4, .invokestatic 88, 3, 119, 3, 0), (7, .ifCond .eq 23, 3, 0, 0, 0), (10, .iload_n 2, 1, 0, 0, 0), (11, .iconst 0, 1, 0, 0, 0), (12, .bipush 7, 2, 0, 0, 0), (14, .invokestatic 88, 3, 119, 3, 0)],
  [(17, .ifCond .eq 13, 3, 0, 0, 0), (20, .iload_n 3, 1, 0, 0, 0), (21, .iconst 0, 1, 0, 0, 0), (22, .bipush 50, 2, 0, 0, 0), (24, .invokestatic 88, 3, 119, 3, 0), (27, .ifCond .ne 6, 3, 0, 0, 0), (30, .ldc 98, 2, 0, 0, (-100000))],
  [(32, .ireturn, 1, 0, 0, 0), (33, .aload_n 0, 1, 0, 0, 0), (34, .getfield 72, 3, 0, 15, 0), (37, .iconst 4, 1, 0, 0, 0), (38, .if_icmp .lt 6, 3, 0, 0, 0), (41, .ldc 114, 2, 0, 0, (-300000)), (43, .ireturn, 1, 0, 0, 0), (44, .aload_n 0, 1, 0, 0, 0), (45, .getfield 53, 3, 0, 13, 3)],
  [(48, .aload_n 0, 1, 0, 0, 0), (49, .getfield 72, 3, 0, 15, 0), (52, .aaload, 1, 0, 0, 0), (53, .iconst 0, 1, 0, 0, 0), (54, .iload_n 1, 1, 0, 0, 0), (55, .iastore, 1, 0, 0, 0), (56, .aload_n 0, 1, 0, 0, 0), (57, .getfield 53, 3, 0, 13, 3), (60, .aload_n 0, 1, 0, 0, 0), (61, .getfield 72, 3, 0, 15, 0)],
  [(64, .aaload, 1, 0, 0, 0), (65, .iconst 1, 1, 0, 0, 0), (66, .iload_n 2, 1, 0, 0, 0), (67, .iastore, 1, 0, 0, 0), (68, .aload_n 0, 1, 0, 0, 0), (69, .getfield 53, 3, 0, 13, 3), (72, .aload_n 0, 1, 0, 0, 0), (73, .getfield 72, 3, 0, 15, 0), (76, .aaload, 1, 0, 0, 0), (77, .iconst 2, 1, 0, 0, 0), (78, .iload_n 3, 1, 0, 0, 0), (79, .iastore, 1, 0, 0, 0)],
  [(80, .aload_n 0, 1, 0, 0, 0), (81, .iconst 1, 1, 0, 0, 0), (82, .putfield 84, 3, 0, 19, 1), (85, .aload_n 0, 1, 0, 0, 0), (86, .dup, 1, 0, 0, 0), (87, .getfield 72, 3, 0, 15, 0), (90, .dup_x1, 1, 0, 0, 0), (91, .iconst 1, 1, 0, 0, 0), (92, .iadd, 1, 0, 0, 0), (93, .putfield 72, 3, 0, 15, 0)],
  [(96, .ireturn, 1, 0, 0, 0)]]
/-- Carriage.tellOpened -/
def et_12 : List (List ex_I) := [[(0, .iload_n 1, 1, 0, 0, 0), (1, .iconst 0, 1, 0, 0, 0), (2, .bipush 23, 2, 0, 0, 0), (4, .invokestatic 88, 3, 119, 3, 0), (7, .ifCond .ne 6, 3, 0, 0, 0), (10, .ldc 98, 2, 0, 0, (-100000)), (12, .ireturn, 1, 0, 0, 0), (13, .aload_n 0, 1, 0, 0, 0), (14, .getfield 81, 3, 0, 18, 0)],
  [(17, .iload_n 1, 1, 0, 0, 0), (18, .invokestatic 103, 3, 15, 2, 0), (21, .iload_n 2, 1, 0, 0, 0), (22, .if_icmp .ne 6, 3, 0, 0, 0), (25, .ldc 107, 2, 0, 0, (-200000)), (27, .ireturn, 1, 0, 0, 0), (28, .aload_n 0, 1, 0, 0, 0), (29, .dup, 1, 0, 0, 0), (30, .getfield 81, 3, 0, 18, 0)],
  [(33, .iconst 1, 1, 0, 0, 0), (34, .iload_n 1, 1, 0, 0, 0), (35, .ishl, 1, 0, 0, 0), (36, .ixor, 1, 0, 0, 0), (37, .putfield 81, 3, 0, 18, 0), (40, .aload_n 0, 1, 0, 0, 0), (41, .iconst 1, 1, 0, 0, 0), (42, .putfield 84, 3, 0, 19, 1), (45, .iconst 1, 1, 0, 0, 0), (46, .ireturn, 1, 0, 0, 0)]]
/-- Carriage.tellPlan -/
def et_13 : List (List ex_I) := [[(0, .iload_n 1, 1, 0, 0, 0), (1, .iconst 0, 1, 0, 0, 0), (2, .bipush 23, 2, 0, 0, 0), (4, .invokestatic 88, 3, 119, 3, 0), (7, .ifCond .eq 12, 3, 0, 0, 0), (10, .iload_n 2, 1, 0, 0, 0), (11, .iconst 0, 1, 0, 0, 0), (12, .iconst 2, 1, 0, 0, 0), (13, .invokestatic 88, 3, 119, 3, 0)],
  [(16, .ifCond .ne 6, 3, 0, 0, 0), (19, .ldc 98, 2, 0, 0, (-100000)), (21, .ireturn, 1, 0, 0, 0), (22, .aload_n 0, 1, 0, 0, 0), (23, .aload_n 0, 1, 0, 0, 0), (24, .getfield 33, 3, 0, 7, 3), (27, .iload_n 1, 1, 0, 0, 0), (28, .iload_n 2, 1, 0, 0, 0), (29, .invokevirtual 99, 3, 1, 3, 0)],
  [(32, .ireturn, 1, 0, 0, 0)]]
/-- Carriage.replace -/
def et_14 : List (List ex_I) := [[(0, .aload_n 1, 1, 0, 0, 0), (1, .iload_n 2, 1, 0, 0, 0), (2, .iaload, 1, 0, 0, 0), (3, .istore 4, 2, 0, 0, 0), (5, .aload_n 1, 1, 0, 0, 0), (6, .iload_n 2, 1, 0, 0, 0), (7, .iload_n 3, 1, 0, 0, 0), (8, .iastore, 1, 0, 0, 0), (9, .aload_n 0, 1, 0, 0, 0), (10, .iconst 1, 1, 0, 0, 0), (11, .putfield 84, 3, 0, 19, 1), (14, .iload 4, 2, 0, 0, 0)],
  [(16, .ireturn, 1, 0, 0, 0)]]
/-- Carriage.bit -/
def et_15 : List (List ex_I) := [[(0, .iload_n 0, 1, 0, 0, 0), (1, .iload_n 1, 1, 0, 0, 0), (2, .ishr, 1, 0, 0, 0), (3, .iconst 1, 1, 0, 0, 0), (4, .iand, 1, 0, 0, 0), (5, .ifCond .eq 7, 3, 0, 0, 0), (8, .iconst 1, 1, 0, 0, 0), (9, .goto 4, 3, 0, 0, 0), (12, .iconst 0, 1, 0, 0, 0), (13, .ireturn, 1, 0, 0, 0)]]
/-- Carriage.cells -/
def et_16 : List (List ex_I) := [[(0, .aload_n 0, 1, 0, 0, 0), (1, .getfield 9, 3, 0, 0, 3), (4, .iconst 0, 1, 0, 0, 0), (5, .iaload, 1, 0, 0, 0), (6, .ireturn, 1, 0, 0, 0)]]
/-- Carriage.quarters -/
def et_17 : List (List ex_I) := [[(0, .aload_n 0, 1, 0, 0, 0), (1, .getfield 9, 3, 0, 0, 3), (4, .iconst 3, 1, 0, 0, 0), (5, .iaload, 1, 0, 0, 0), (6, .ireturn, 1, 0, 0, 0)]]
/-- Carriage.nearestCell -/
def et_18 : List (List ex_I) := [[(0, .iload_n 1, 1, 0, 0, 0), (1, .aload_n 0, 1, 0, 0, 0), (2, .getfield 9, 3, 0, 0, 3), (5, .iconst 0, 1, 0, 0, 0), (6, .iaload, 1, 0, 0, 0), (7, .if_icmp .ge 7, 3, 0, 0, 0), (10, .iload_n 1, 1, 0, 0, 0), (11, .goto 11, 3, 0, 0, 0), (14, .aload_n 0, 1, 0, 0, 0), (15, .getfield 9, 3, 0, 0, 3)],
  [(18, .iconst 0, 1, 0, 0, 0), (19, .iaload, 1, 0, 0, 0), (20, .iconst 1, 1, 0, 0, 0), (21, .isub, 1, 0, 0, 0), (22, .ireturn, 1, 0, 0, 0)]]
/-- Carriage.hasCell -/
def et_19 : List (List ex_I) := [[(0, .iload_n 1, 1, 0, 0, 0), (1, .iconst 0, 1, 0, 0, 0), (2, .aload_n 0, 1, 0, 0, 0), (3, .invokevirtual 119, 3, 3, 0, 0), (6, .iconst 1, 1, 0, 0, 0), (7, .isub, 1, 0, 0, 0), (8, .invokestatic 88, 3, 119, 3, 0), (11, .ireturn, 1, 0, 0, 0)]]
/-- Carriage.hasQuarter -/
def et_20 : List (List ex_I) := [[(0, .iload_n 1, 1, 0, 0, 0), (1, .iconst 0, 1, 0, 0, 0), (2, .aload_n 0, 1, 0, 0, 0), (3, .invokevirtual 123, 3, 4, 0, 0), (6, .iconst 1, 1, 0, 0, 0), (7, .isub, 1, 0, 0, 0), (8, .invokestatic 88, 3, 119, 3, 0), (11, .ireturn, 1, 0, 0, 0)]]
/-- Carriage.hasMan -/
def et_21 : List (List ex_I) := [[(0, .iload_n 1, 1, 0, 0, 0), (1, .iconst 0, 1, 0, 0, 0), (2, .aload_n 0, 1, 0, 0, 0), (3, .getfield 68, 3, 0, 14, 0), (6, .iconst 1, 1, 0, 0, 0), (7, .isub, 1, 0, 0, 0), (8, .invokestatic 88, 3, 119, 3, 0), (11, .ireturn, 1, 0, 0, 0)]]
/-- Carriage.allSeats -/
def et_22 : List (List ex_I) := [[(0, .iconst 0, 1, 0, 0, 0), (1, .istore_n 1, 1, 0, 0, 0), (2, .iconst 0, 1, 0, 0, 0), (3, .istore_n 2, 1, 0, 0, 0), (4, .iload_n 2, 1, 0, 0, 0), (5, .aload_n 0, 1, 0, 0, 0), (6, .invokevirtual 119, 3, 3, 0, 0), (9, .if_icmp .ge 18, 3, 0, 0, 0), (12, .iload_n 1, 1, 0, 0, 0), (13, .aload_n 0, 1, 0, 0, 0), (14, .getfield 21, 3, 0, 3, 3)],
  [(17, .iload_n 2, 1, 0, 0, 0), (18, .iaload, 1, 0, 0, 0), (19, .iadd, 1, 0, 0, 0), (20, .istore_n 1, 1, 0, 0, 0), (21, .iinc 2 1, 3, 0, 0, 0), (24, .goto (-20), 3, 0, 0, 0), (27, .iload_n 1, 1, 0, 0, 0), (28, .ireturn, 1, 0, 0, 0)]]
/-- Carriage.helpAgainst -/
def et_23 : List (List ex_I) := [[(0, .iload_n 1, 1, 0, 0, 0), (1, .bipush 24, 2, 0, 0, 0), (3, .if_icmp .ne 13, 3, 0, 0, 0), (6, .aload_n 0, 1, 0, 0, 0), (7, .getfield 9, 3, 0, 0, 3), (10, .bipush 10, 2, 0, 0, 0), (12, .iaload, 1, 0, 0, 0), (13, .goto 4, 3, 0, 0, 0)],
  [(16, .iconst 0, 1, 0, 0, 0), (17, .istore_n 2, 1, 0, 0, 0), (18, .iconst 0, 1, 0, 0, 0), (19, .istore_n 3, 1, 0, 0, 0), (20, .iload_n 3, 1, 0, 0, 0), (21, .aload_n 0, 1, 0, 0, 0), (22, .invokevirtual 123, 3, 4, 0, 0), (25, .if_icmp .ge 23, 3, 0, 0, 0), (28, .iload_n 3, 1, 0, 0, 0), (29, .iload_n 1, 1, 0, 0, 0), (30, .if_icmp .ge 18, 3, 0, 0, 0)],
  [(33, .iload_n 2, 1, 0, 0, 0), (34, .aload_n 0, 1, 0, 0, 0), (35, .getfield 30, 3, 0, 6, 3), (38, .iload_n 3, 1, 0, 0, 0), (39, .iaload, 1, 0, 0, 0), (40, .iadd, 1, 0, 0, 0), (41, .istore_n 2, 1, 0, 0, 0), (42, .iinc 3 1, 3, 0, 0, 0), (45, .goto (-25), 3, 0, 0, 0)],
  [(48, .iload_n 2, 1, 0, 0, 0), (49, .ireturn, 1, 0, 0, 0)]]
/-- Carriage.lossAt -/
def et_24 : List (List ex_I) := [[(0, .aload_n 0, 1, 0, 0, 0), (1, .getfield 18, 3, 0, 2, 3), (4, .iload_n 2, 1, 0, 0, 0), (5, .iaload, 1, 0, 0, 0), (6, .istore_n 3, 1, 0, 0, 0), (7, .iconst 0, 1, 0, 0, 0), (8, .istore 4, 2, 0, 0, 0), (10, .iload 4, 2, 0, 0, 0), (12, .aload_n 0, 1, 0, 0, 0), (13, .getfield 72, 3, 0, 15, 0)],
  [(16, .if_icmp .ge 45, 3, 0, 0, 0), (19, .aload_n 0, 1, 0, 0, 0), (20, .getfield 53, 3, 0, 13, 3), (23, .iload 4, 2, 0, 0, 0), (25, .aaload, 1, 0, 0, 0), (26, .iconst 1, 1, 0, 0, 0), (27, .iaload, 1, 0, 0, 0), (28, .iload_n 2, 1, 0, 0, 0), (29, .if_icmp .ne 26, 3, 0, 0, 0)],
  [(32, .aload_n 0, 1, 0, 0, 0), (33, .getfield 53, 3, 0, 13, 3), (36, .iload 4, 2, 0, 0, 0), (38, .aaload, 1, 0, 0, 0), (39, .iconst 0, 1, 0, 0, 0), (40, .iaload, 1, 0, 0, 0), (41, .iload_n 1, 1, 0, 0, 0), (42, .if_icmp .gt 13, 3, 0, 0, 0), (45, .aload_n 0, 1, 0, 0, 0), (46, .getfield 53, 3, 0, 13, 3)],
  [(49, .iload 4, 2, 0, 0, 0), (51, .aaload, 1, 0, 0, 0), (52, .iconst 2, 1, 0, 0, 0), (53, .iaload, 1, 0, 0, 0), (54, .istore_n 3, 1, 0, 0, 0), (55, .iinc 4 1, 3, 0, 0, 0), (58, .goto (-48), 3, 0, 0, 0), (61, .iload_n 3, 1, 0, 0, 0), (62, .ireturn, 1, 0, 0, 0)]]
/-- Carriage.mixCells -/
def et_25 : List (List ex_I) := [[(0, .lload_n 1, 1, 0, 0, 0), (1, .lstore_n 3, 1, 0, 0, 0), (2, .iconst 0, 1, 0, 0, 0), (3, .istore 5, 2, 0, 0, 0), (5, .iload 5, 2, 0, 0, 0), (7, .bipush 11, 2, 0, 0, 0), (9, .if_icmp .ge 22, 3, 0, 0, 0), (12, .lload_n 3, 1, 0, 0, 0), (13, .aload_n 0, 1, 0, 0, 0), (14, .getfield 9, 3, 0, 0, 3)],
  [(17, .iload 5, 2, 0, 0, 0), (19, .iaload, 1, 0, 0, 0), (20, .i2l, 1, 0, 0, 0), (21, .invokestatic 126, 3, 121, 2, 0), (24, .lstore_n 3, 1, 0, 0, 0), (25, .iinc 5 1, 3, 0, 0, 0), (28, .goto (-23), 3, 0, 0, 0), (31, .iconst 0, 1, 0, 0, 0)],
  [(32, .istore 5, 2, 0, 0, 0), (34, .iload 5, 2, 0, 0, 0), (36, .bipush 8, 2, 0, 0, 0), (38, .if_icmp .ge 70, 3, 0, 0, 0), (41, .lload_n 3, 1, 0, 0, 0), (42, .aload_n 0, 1, 0, 0, 0), (43, .getfield 15, 3, 0, 1, 3), (46, .iload 5, 2, 0, 0, 0)],
  [(48, .iaload, 1, 0, 0, 0), (49, .i2l, 1, 0, 0, 0), (50, .invokestatic 126, 3, 121, 2, 0), (53, .aload_n 0, 1, 0, 0, 0), (54, .getfield 18, 3, 0, 2, 3), (57, .iload 5, 2, 0, 0, 0), (59, .iaload, 1, 0, 0, 0), (60, .i2l, 1, 0, 0, 0), (61, .invokestatic 126, 3, 121, 2, 0)],
  [(64, .aload_n 0, 1, 0, 0, 0), (65, .getfield 21, 3, 0, 3, 3), (68, .iload 5, 2, 0, 0, 0), (70, .iaload, 1, 0, 0, 0), (71, .i2l, 1, 0, 0, 0), (72, .invokestatic 126, 3, 121, 2, 0), (75, .lstore_n 3, 1, 0, 0, 0), (76, .lload_n 3, 1, 0, 0, 0), (77, .aload_n 0, 1, 0, 0, 0), (78, .getfield 24, 3, 0, 4, 3)],
  [(81, .iload 5, 2, 0, 0, 0), (83, .iaload, 1, 0, 0, 0), (84, .i2l, 1, 0, 0, 0), (85, .invokestatic 126, 3, 121, 2, 0), (88, .aload_n 0, 1, 0, 0, 0), (89, .getfield 75, 3, 0, 16, 0), (92, .iload 5, 2, 0, 0, 0), (94, .ishr, 1, 0, 0, 0), (95, .iconst 1, 1, 0, 0, 0)],
  [(96, .iand, 1, 0, 0, 0), (97, .i2l, 1, 0, 0, 0), (98, .invokestatic 126, 3, 121, 2, 0), (101, .lstore_n 3, 1, 0, 0, 0), (102, .iinc 5 1, 3, 0, 0, 0), (105, .goto (-71), 3, 0, 0, 0), (108, .lload_n 3, 1, 0, 0, 0), (109, .lreturn, 1, 0, 0, 0)]]
/-- Carriage.mixQuarters -/
def et_26 : List (List ex_I) := [[(0, .lload_n 1, 1, 0, 0, 0), (1, .lstore_n 3, 1, 0, 0, 0), (2, .iconst 0, 1, 0, 0, 0), (3, .istore 5, 2, 0, 0, 0), (5, .iload 5, 2, 0, 0, 0), (7, .bipush 24, 2, 0, 0, 0), (9, .if_icmp .ge 57, 3, 0, 0, 0), (12, .lload_n 3, 1, 0, 0, 0), (13, .aload_n 0, 1, 0, 0, 0), (14, .getfield 27, 3, 0, 5, 3)],
  [(17, .iload 5, 2, 0, 0, 0), (19, .iaload, 1, 0, 0, 0), (20, .i2l, 1, 0, 0, 0), (21, .invokestatic 126, 3, 121, 2, 0), (24, .aload_n 0, 1, 0, 0, 0), (25, .getfield 30, 3, 0, 6, 3), (28, .iload 5, 2, 0, 0, 0), (30, .iaload, 1, 0, 0, 0), (31, .i2l, 1, 0, 0, 0)],
  [(32, .invokestatic 126, 3, 121, 2, 0), (35, .aload_n 0, 1, 0, 0, 0), (36, .getfield 33, 3, 0, 7, 3), (39, .iload 5, 2, 0, 0, 0), (41, .iaload, 1, 0, 0, 0), (42, .i2l, 1, 0, 0, 0), (43, .invokestatic 126, 3, 121, 2, 0), (46, .aload_n 0, 1, 0, 0, 0), (47, .getfield 81, 3, 0, 18, 0)],
  [(50, .iload 5, 2, 0, 0, 0), (52, .ishr, 1, 0, 0, 0), (53, .iconst 1, 1, 0, 0, 0), (54, .iand, 1, 0, 0, 0), (55, .i2l, 1, 0, 0, 0), (56, .invokestatic 126, 3, 121, 2, 0), (59, .lstore_n 3, 1, 0, 0, 0), (60, .iinc 5 1, 3, 0, 0, 0), (63, .goto (-58), 3, 0, 0, 0)],
  [(66, .lload_n 3, 1, 0, 0, 0), (67, .lreturn, 1, 0, 0, 0)]]
/-- Carriage.mixPeople -/
def et_27 : List (List ex_I) := [[(0, .lload_n 1, 1, 0, 0, 0), (1, .lstore_n 3, 1, 0, 0, 0), (2, .iconst 0, 1, 0, 0, 0), (3, .istore 5, 2, 0, 0, 0), (5, .iload 5, 2, 0, 0, 0), (7, .aload_n 0, 1, 0, 0, 0), (8, .getfield 68, 3, 0, 14, 0), (11, .if_icmp .ge 81, 3, 0, 0, 0), (14, .lload_n 3, 1, 0, 0, 0), (15, .aload_n 0, 1, 0, 0, 0)],
  [(16, .getfield 36, 3, 0, 8, 3), (19, .iload 5, 2, 0, 0, 0), (21, .iaload, 1, 0, 0, 0), (22, .i2l, 1, 0, 0, 0), (23, .invokestatic 126, 3, 121, 2, 0), (26, .aload_n 0, 1, 0, 0, 0), (27, .getfield 39, 3, 0, 9, 3), (30, .iload 5, 2, 0, 0, 0)],
  [(32, .iaload, 1, 0, 0, 0), (33, .i2l, 1, 0, 0, 0), (34, .invokestatic 126, 3, 121, 2, 0), (37, .aload_n 0, 1, 0, 0, 0), (38, .getfield 42, 3, 0, 10, 3), (41, .iload 5, 2, 0, 0, 0), (43, .iaload, 1, 0, 0, 0), (44, .i2l, 1, 0, 0, 0), (45, .invokestatic 126, 3, 121, 2, 0)],
  [(48, .lstore_n 3, 1, 0, 0, 0), (49, .lload_n 3, 1, 0, 0, 0), (50, .aload_n 0, 1, 0, 0, 0), (51, .getfield 45, 3, 0, 11, 3), (54, .iload 5, 2, 0, 0, 0), (56, .iaload, 1, 0, 0, 0), (57, .i2l, 1, 0, 0, 0), (58, .invokestatic 126, 3, 121, 2, 0), (61, .aload_n 0, 1, 0, 0, 0), (62, .getfield 48, 3, 0, 12, 3)],
  [(65, .iload 5, 2, 0, 0, 0), (67, .iaload, 1, 0, 0, 0), (68, .i2l, 1, 0, 0, 0), (69, .invokestatic 126, 3, 121, 2, 0), (72, .aload_n 0, 1, 0, 0, 0), (73, .getfield 78, 3, 0, 17, 0), (76, .iload 5, 2, 0, 0, 0), (78, .ishr, 1, 0, 0, 0), (79, .iconst 1, 1, 0, 0, 0)],
  [(80, .iand, 1, 0, 0, 0), (81, .i2l, 1, 0, 0, 0), (82, .invokestatic 126, 3, 121, 2, 0), (85, .lstore_n 3, 1, 0, 0, 0), (86, .iinc 5 1, 3, 0, 0, 0), (89, .goto (-84), 3, 0, 0, 0), (92, .iconst 0, 1, 0, 0, 0), (93, .istore 5, 2, 0, 0, 0), (95, .iload 5, 2, 0, 0, 0)],
  [(97, .aload_n 0, 1, 0, 0, 0), (98, .getfield 72, 3, 0, 15, 0), (101, .if_icmp .ge 50, 3, 0, 0, 0), (104, .lload_n 3, 1, 0, 0, 0), (105, .aload_n 0, 1, 0, 0, 0), (106, .getfield 53, 3, 0, 13, 3), (109, .iload 5, 2, 0, 0, 0), (111, .aaload, 1, 0, 0, 0)],
  [(112, .iconst 0, 1, 0, 0, 0), (113, .iaload, 1, 0, 0, 0), (114, .i2l, 1, 0, 0, 0), (115, .invokestatic 126, 3, 121, 2, 0), (118, .aload_n 0, 1, 0, 0, 0), (119, .getfield 53, 3, 0, 13, 3), (122, .iload 5, 2, 0, 0, 0), (124, .aaload, 1, 0, 0, 0), (125, .iconst 1, 1, 0, 0, 0), (126, .iaload, 1, 0, 0, 0), (127, .i2l, 1, 0, 0, 0)],
  [(128, .invokestatic 126, 3, 121, 2, 0), (131, .aload_n 0, 1, 0, 0, 0), (132, .getfield 53, 3, 0, 13, 3), (135, .iload 5, 2, 0, 0, 0), (137, .aaload, 1, 0, 0, 0), (138, .iconst 2, 1, 0, 0, 0), (139, .iaload, 1, 0, 0, 0), (140, .i2l, 1, 0, 0, 0), (141, .invokestatic 126, 3, 121, 2, 0)],
  [(144, .lstore_n 3, 1, 0, 0, 0), (145, .iinc 5 1, 3, 0, 0, 0), (148, .goto (-53), 3, 0, 0, 0), (151, .lload_n 3, 1, 0, 0, 0), (152, .lreturn, 1, 0, 0, 0)]]
/-- Early.<init> -/
def et_28 : List (List ex_I) := [[(0, .aload_n 0, 1, 0, 0, 0), (1, .invokespecial 1, 3, 30, 0, 0), (4, .return_, 1, 0, 0, 0)]]
/-- Early.pieces -/
def et_29 : List (List ex_I) := [[(0, .iload_n 3, 1, 0, 0, 0), (1, .aload_n 1, 1, 0, 0, 0), (2, .invokevirtual 7, 3, 4, 0, 0), (5, .iconst 1, 1, 0, 0, 0), (6, .iadd, 1, 0, 0, 0), (7, .iconst 2, 1, 0, 0, 0), (8, .idiv, 1, 0, 0, 0), (9, .if_icmp .lt 5, 3, 0, 0, 0), (12, .iconst 0, 1, 0, 0, 0), (13, .ireturn, 1, 0, 0, 0), (14, .iconst 2, 1, 0, 0, 0), (15, .aload_n 0, 1, 0, 0, 0)],
  [(16, .aload_n 1, 1, 0, 0, 0), (17, .iload_n 2, 1, 0, 0, 0), (18, .iload_n 3, 1, 0, 0, 0), (19, .iload 4, 2, 0, 0, 0), (21, .invokespecial 13, 3, 31, 4, 0), (24, .imul, 1, 0, 0, 0), (25, .iload 4, 2, 0, 0, 0), (27, .invokestatic 17, 3, 208, 2, 0), (30, .ireturn, 1, 0, 0, 0)]]
/-- Even.<init> -/
def et_30 : List (List ex_I) := [[(0, .aload_n 0, 1, 0, 0, 0), (1, .invokespecial 1, 3, 0, 0, 1), (4, .return_, 1, 0, 0, 0)]]
/-- Even.pieces -/
def et_31 : List (List ex_I) := [[(0, .iload_n 2, 1, 0, 0, 0), (1, .iload 4, 2, 0, 0, 0), (3, .invokestatic 7, 3, 208, 2, 0), (6, .ireturn, 1, 0, 0, 0)]]
/-- Even.seat -/
def et_32 : List (List ex_I) := [[(0, .iload_n 2, 1, 0, 0, 0), (1, .ireturn, 1, 0, 0, 0)]]
/-- Even.isHung -/
def et_33 : List (List ex_I) := [[(0, .aload_n 1, 1, 0, 0, 0), (1, .getfield 13, 3, 0, 16, 0), (4, .iload_n 2, 1, 0, 0, 0), (5, .invokestatic 19, 3, 15, 2, 0), (8, .ireturn, 1, 0, 0, 0)]]
/-- Half.<init> -/
def et_34 : List (List ex_I) := [[(0, .aload_n 0, 1, 0, 0, 0), (1, .invokespecial 3, 3, 30, 0, 0), (4, .return_, 1, 0, 0, 0)]]
/-- Half.seat -/
def et_35 : List (List ex_I) := [[(0, .aload_n 1, 1, 0, 0, 0), (1, .aload_n 1, 1, 0, 0, 0), (2, .getfield 9, 3, 0, 0, 3), (5, .iconst 1, 1, 0, 0, 0), (6, .iaload, 1, 0, 0, 0), (7, .invokevirtual 15, 3, 5, 1, 0), (10, .istore 4, 2, 0, 0, 0), (12, .aload_n 1, 1, 0, 0, 0), (13, .getfield 9, 3, 0, 0, 3)],
  [(16, .bipush 9, 2, 0, 0, 0), (18, .iaload, 1, 0, 0, 0), (19, .istore 5, 2, 0, 0, 0), (21, .iload 4, 2, 0, 0, 0), (23, .iload 5, 2, 0, 0, 0), (25, .isub, 1, 0, 0, 0), (26, .iload 4, 2, 0, 0, 0), (28, .iload 5, 2, 0, 0, 0), (30, .iadd, 1, 0, 0, 0), (31, .iload_n 2, 1, 0, 0, 0)],
  [(32, .invokestatic 19, 3, 208, 2, 0), (35, .invokestatic 25, 3, 207, 2, 0), (38, .ireturn, 1, 0, 0, 0)]]
/-- Half.isHung -/
def et_36 : List (List ex_I) := [[(0, .aload_n 0, 1, 0, 0, 0), (1, .aload_n 1, 1, 0, 0, 0), (2, .iload_n 2, 1, 0, 0, 0), (3, .invokespecial 28, 3, 33, 2, 0), (6, .ifCond .ne 18, 3, 0, 0, 0), (9, .aload_n 1, 1, 0, 0, 0), (10, .iload_n 2, 1, 0, 0, 0), (11, .invokestatic 32, 3, 37, 2, 0), (14, .aload_n 1, 1, 0, 0, 0), (15, .iload_n 2, 1, 0, 0, 0)],
  [(16, .iconst 1, 1, 0, 0, 0), (17, .iadd, 1, 0, 0, 0), (18, .invokestatic 32, 3, 37, 2, 0), (21, .if_icmp .eq 7, 3, 0, 0, 0), (24, .iconst 1, 1, 0, 0, 0), (25, .goto 4, 3, 0, 0, 0), (28, .iconst 0, 1, 0, 0, 0), (29, .ireturn, 1, 0, 0, 0)]]
/-- Half.isNear -/
def et_37 : List (List ex_I) := [[(0, .iload_n 1, 1, 0, 0, 0), (1, .aload_n 0, 1, 0, 0, 0), (2, .aload_n 0, 1, 0, 0, 0), (3, .getfield 9, 3, 0, 0, 3), (6, .iconst 1, 1, 0, 0, 0), (7, .iaload, 1, 0, 0, 0), (8, .invokevirtual 15, 3, 5, 1, 0), (11, .isub, 1, 0, 0, 0), (12, .invokestatic 37, 3, 206, 1, 0), (15, .aload_n 0, 1, 0, 0, 0)],
  [(16, .getfield 9, 3, 0, 0, 3), (19, .bipush 9, 2, 0, 0, 0), (21, .iaload, 1, 0, 0, 0), (22, .if_icmp .gt 7, 3, 0, 0, 0), (25, .iconst 1, 1, 0, 0, 0), (26, .goto 4, 3, 0, 0, 0), (29, .iconst 0, 1, 0, 0, 0), (30, .ireturn, 1, 0, 0, 0)]]
/-- Late.<init> -/
def et_38 : List (List ex_I) := [[(0, .aload_n 0, 1, 0, 0, 0), (1, .invokespecial 1, 3, 28, 0, 0), (4, .return_, 1, 0, 0, 0)]]
/-- Late.pieces -/
def et_39 : List (List ex_I) := [[(0, .aload_n 0, 1, 0, 0, 0), (1, .aload_n 1, 1, 0, 0, 0), (2, .iload_n 2, 1, 0, 0, 0), (3, .aload_n 1, 1, 0, 0, 0), (4, .invokevirtual 7, 3, 4, 0, 0), (7, .iconst 1, 1, 0, 0, 0), (8, .isub, 1, 0, 0, 0), (9, .iload_n 3, 1, 0, 0, 0), (10, .isub, 1, 0, 0, 0), (11, .iload 4, 2, 0, 0, 0), (13, .invokespecial 13, 3, 29, 4, 0)],
  [(16, .ireturn, 1, 0, 0, 0)]]
/-- Night.<init> -/
def et_40 : List (List ex_I) := [[(0, .aload_n 0, 1, 0, 0, 0), (1, .invokespecial 3, 3, 0, 0, 1), (4, .aload_n 0, 1, 0, 0, 0), (5, .bipush 25, 2, 0, 0, 0), (7, .bipush 8, 2, 0, 0, 0), (9, .multianewarray 9 2, 4, 0, 0, 0), (13, .putfield 11, 3, 5, 1, 3)],
  [(16, .aload_n 0, 1, 0, 0, 0), (17, .bipush 25, 2, 0, 0, 0), (19, .newarray .int, 2, 0, 0, 0), (21, .putfield 16, 3, 5, 2, 3), (24, .aload_n 0, 1, 0, 0, 0), (25, .bipush 25, 2, 0, 0, 0), (27, .newarray .int, 2, 0, 0, 0), (29, .putfield 20, 3, 5, 3, 3)],
  [(32, .aload_n 0, 1, 0, 0, 0), (33, .bipush 25, 2, 0, 0, 0), (35, .newarray .int, 2, 0, 0, 0), (37, .putfield 23, 3, 5, 4, 3), (40, .aload_n 0, 1, 0, 0, 0), (41, .bipush 24, 2, 0, 0, 0), (43, .newarray .int, 2, 0, 0, 0), (45, .putfield 26, 3, 5, 5, 3)],
  [(48, .aload_n 0, 1, 0, 0, 0), (49, .bipush 25, 2, 0, 0, 0), (51, .bipush 8, 2, 0, 0, 0), (53, .multianewarray 9 2, 4, 0, 0, 0), (57, .putfield 29, 3, 5, 6, 3), (60, .aload_n 0, 1, 0, 0, 0), (61, .bipush 25, 2, 0, 0, 0), (63, .bipush 8, 2, 0, 0, 0)],
  [(65, .multianewarray 9 2, 4, 0, 0, 0), (69, .putfield 32, 3, 5, 7, 3), (72, .aload_n 0, 1, 0, 0, 0), (73, .bipush 25, 2, 0, 0, 0), (75, .bipush 8, 2, 0, 0, 0), (77, .multianewarray 9 2, 4, 0, 0, 0)],
  [(81, .putfield 35, 3, 5, 8, 3), (84, .aload_n 0, 1, 0, 0, 0), (85, .bipush 24, 2, 0, 0, 0), (87, .bipush 8, 2, 0, 0, 0), (89, .multianewarray 9 2, 4, 0, 0, 0), (93, .putfield 38, 3, 5, 9, 3)],
  [(96, .aload_n 0, 1, 0, 0, 0), (97, .bipush 24, 2, 0, 0, 0), (99, .bipush 8, 2, 0, 0, 0), (101, .multianewarray 9 2, 4, 0, 0, 0), (105, .putfield 41, 3, 5, 10, 3), (108, .aload_n 0, 1, 0, 0, 0), (109, .bipush 24, 2, 0, 0, 0), (111, .bipush 8, 2, 0, 0, 0)],
  [(113, .multianewarray 9 2, 4, 0, 0, 0), (117, .putfield 44, 3, 5, 11, 3), (120, .aload_n 0, 1, 0, 0, 0), (121, .bipush 8, 2, 0, 0, 0), (123, .newarray .int, 2, 0, 0, 0), (125, .putfield 47, 3, 5, 12, 3)],
  [(128, .aload_n 0, 1, 0, 0, 0), (129, .bipush 8, 2, 0, 0, 0), (131, .newarray .int, 2, 0, 0, 0), (133, .putfield 50, 3, 5, 13, 3), (136, .aload_n 0, 1, 0, 0, 0), (137, .bipush 8, 2, 0, 0, 0), (139, .newarray .int, 2, 0, 0, 0), (141, .putfield 53, 3, 5, 14, 3)],
  [(144, .aload_n 0, 1, 0, 0, 0), (145, .aload_n 1, 1, 0, 0, 0), (146, .putfield 56, 3, 5, 0, 3), (149, .return_, 1, 0, 0, 0)]]
/-- Night.play -/
def et_41 : List (List ex_I) := [[(0, .aload_n 0, 1, 0, 0, 0), (1, .aload_n 1, 1, 0, 0, 0), (2, .iload_n 3, 1, 0, 0, 0), (3, .iload 4, 2, 0, 0, 0), (5, .invokevirtual 60, 3, 6, 3, 0), (8, .iconst 0, 1, 0, 0, 0), (9, .istore 5, 2, 0, 0, 0), (11, .iload 5, 2, 0, 0, 0), (13, .aload_n 0, 1, 0, 0, 0), (14, .getfield 56, 3, 5, 0, 3)],
  [(17, .invokevirtual 64, 3, 4, 0, 0), (20, .if_icmp .ge 33, 3, 0, 0, 0), (23, .aload_n 0, 1, 0, 0, 0), (24, .iload 5, 2, 0, 0, 0), (26, .aload_n 1, 1, 0, 0, 0), (27, .aload_n 0, 1, 0, 0, 0), (28, .getfield 56, 3, 5, 0, 3), (31, .iload_n 2, 1, 0, 0, 0)],
  [(32, .iload 5, 2, 0, 0, 0), (34, .aload_n 0, 1, 0, 0, 0), (35, .getfield 16, 3, 5, 2, 3), (38, .iload 5, 2, 0, 0, 0), (40, .iaload, 1, 0, 0, 0), (41, .invokevirtual 70, 3, 7, 4, 0), (44, .invokevirtual 76, 3, 8, 2, 0), (47, .iinc 5 1, 3, 0, 0, 0)],
  [(50, .goto (-39), 3, 0, 0, 0), (53, .return_, 1, 0, 0, 0)]]
/-- Night.prepare -/
def et_42 : List (List ex_I) := [[(0, .aload_n 0, 1, 0, 0, 0), (1, .iload_n 3, 1, 0, 0, 0), (2, .putfield 80, 3, 5, 15, 0), (5, .iconst 0, 1, 0, 0, 0), (6, .istore 4, 2, 0, 0, 0), (8, .iload 4, 2, 0, 0, 0), (10, .aload_n 0, 1, 0, 0, 0), (11, .getfield 56, 3, 5, 0, 3), (14, .invokevirtual 84, 3, 3, 0, 0)],
  [(17, .if_icmp .ge 73, 3, 0, 0, 0), (20, .aload_n 0, 1, 0, 0, 0), (21, .getfield 11, 3, 5, 1, 3), (24, .iconst 0, 1, 0, 0, 0), (25, .aaload, 1, 0, 0, 0), (26, .iload 4, 2, 0, 0, 0), (28, .aload_n 0, 1, 0, 0, 0), (29, .getfield 56, 3, 5, 0, 3)],
  [(32, .getfield 87, 3, 0, 1, 3), (35, .iload 4, 2, 0, 0, 0), (37, .iaload, 1, 0, 0, 0), (38, .iastore, 1, 0, 0, 0), (39, .aload_n 0, 1, 0, 0, 0), (40, .getfield 47, 3, 5, 12, 3), (43, .iload 4, 2, 0, 0, 0), (45, .aload_n 1, 1, 0, 0, 0), (46, .aload_n 0, 1, 0, 0, 0), (47, .getfield 56, 3, 5, 0, 3)],
  [(50, .iload 4, 2, 0, 0, 0), (52, .invokevirtual 89, 3, 9, 2, 0), (55, .ifCond .eq 18, 3, 0, 0, 0), (58, .aload_n 0, 1, 0, 0, 0), (59, .getfield 56, 3, 5, 0, 3), (62, .getfield 93, 3, 0, 4, 3)],
  [(65, .iload 4, 2, 0, 0, 0), (67, .iaload, 1, 0, 0, 0), (68, .iconst 4, 1, 0, 0, 0), (69, .idiv, 1, 0, 0, 0), (70, .goto 13, 3, 0, 0, 0), (73, .aload_n 0, 1, 0, 0, 0), (74, .getfield 56, 3, 5, 0, 3), (77, .getfield 93, 3, 0, 4, 3)],
  [(80, .iload 4, 2, 0, 0, 0), (82, .iaload, 1, 0, 0, 0), (83, .iastore, 1, 0, 0, 0), (84, .iinc 4 1, 3, 0, 0, 0), (87, .goto (-79), 3, 0, 0, 0), (90, .aload_n 0, 1, 0, 0, 0), (91, .getfield 16, 3, 5, 2, 3), (94, .iconst 0, 1, 0, 0, 0), (95, .aload_n 0, 1, 0, 0, 0)],
  [(96, .getfield 56, 3, 5, 0, 3), (99, .getfield 94, 3, 0, 0, 3), (102, .iconst 5, 1, 0, 0, 0), (103, .iaload, 1, 0, 0, 0), (104, .iastore, 1, 0, 0, 0), (105, .aload_n 0, 1, 0, 0, 0), (106, .getfield 23, 3, 5, 4, 3), (109, .iconst 0, 1, 0, 0, 0), (110, .bipush 24, 2, 0, 0, 0)],
  [(112, .iastore, 1, 0, 0, 0), (113, .aload_n 0, 1, 0, 0, 0), (114, .getfield 20, 3, 5, 3, 3), (117, .iconst 0, 1, 0, 0, 0), (118, .aload_n 0, 1, 0, 0, 0), (119, .getfield 56, 3, 5, 0, 3), (122, .getfield 97, 3, 0, 14, 0), (125, .ifCond .ne 9, 3, 0, 0, 0)],
  [(128, .sipush 1000, 3, 0, 0, 0), (131, .goto 5, 3, 0, 0, 0), (134, .ldc 100, 2, 0, 0, 1000000), (136, .iastore, 1, 0, 0, 0), (137, .iconst 0, 1, 0, 0, 0), (138, .istore 4, 2, 0, 0, 0), (140, .iload 4, 2, 0, 0, 0), (142, .aload_n 0, 1, 0, 0, 0), (143, .getfield 56, 3, 5, 0, 3)],
  [(146, .getfield 97, 3, 0, 14, 0), (149, .if_icmp .ge 98, 3, 0, 0, 0), (152, .aload_n 0, 1, 0, 0, 0), (153, .getfield 29, 3, 5, 6, 3), (156, .iconst 0, 1, 0, 0, 0), (157, .aaload, 1, 0, 0, 0), (158, .iload 4, 2, 0, 0, 0)],
  [(160, .iconst 0, 1, 0, 0, 0), (161, .iastore, 1, 0, 0, 0), (162, .aload_n 0, 1, 0, 0, 0), (163, .getfield 32, 3, 5, 7, 3), (166, .iconst 0, 1, 0, 0, 0), (167, .aaload, 1, 0, 0, 0), (168, .iload 4, 2, 0, 0, 0), (170, .ldc 100, 2, 0, 0, 1000000), (172, .iastore, 1, 0, 0, 0), (173, .aload_n 0, 1, 0, 0, 0), (174, .getfield 35, 3, 5, 8, 3)],
  [(177, .iconst 0, 1, 0, 0, 0), (178, .aaload, 1, 0, 0, 0), (179, .iload 4, 2, 0, 0, 0), (181, .bipush 24, 2, 0, 0, 0), (183, .iastore, 1, 0, 0, 0), (184, .aload_n 0, 1, 0, 0, 0), (185, .getfield 53, 3, 5, 14, 3), (188, .iload 4, 2, 0, 0, 0), (190, .aload_n 0, 1, 0, 0, 0), (191, .getfield 56, 3, 5, 0, 3)],
  [(194, .getfield 101, 3, 0, 10, 3), (197, .iload 4, 2, 0, 0, 0), (199, .iaload, 1, 0, 0, 0), (200, .aload_n 0, 1, 0, 0, 0), (201, .getfield 56, 3, 5, 0, 3), (204, .getfield 104, 3, 0, 12, 3), (207, .iload 4, 2, 0, 0, 0)],
  [(209, .iaload, 1, 0, 0, 0), (210, .iadd, 1, 0, 0, 0), (211, .iastore, 1, 0, 0, 0), (212, .iload_n 2, 1, 0, 0, 0), (213, .iload 4, 2, 0, 0, 0), (215, .invokestatic 107, 3, 15, 2, 0), (218, .ifCond .eq 23, 3, 0, 0, 0), (221, .aload_n 0, 1, 0, 0, 0), (222, .getfield 53, 3, 5, 14, 3)],
  [(225, .iload 4, 2, 0, 0, 0), (227, .dup2, 1, 0, 0, 0), (228, .iaload, 1, 0, 0, 0), (229, .aload_n 0, 1, 0, 0, 0), (230, .getfield 56, 3, 5, 0, 3), (233, .getfield 94, 3, 0, 0, 3), (236, .bipush 6, 2, 0, 0, 0), (238, .iaload, 1, 0, 0, 0), (239, .isub, 1, 0, 0, 0)],
  [(240, .iastore, 1, 0, 0, 0), (241, .iinc 4 1, 3, 0, 0, 0), (244, .goto (-104), 3, 0, 0, 0), (247, .iconst 0, 1, 0, 0, 0), (248, .istore 4, 2, 0, 0, 0), (250, .iload 4, 2, 0, 0, 0), (252, .aload_n 0, 1, 0, 0, 0), (253, .getfield 56, 3, 5, 0, 3)],
  [(256, .invokevirtual 64, 3, 4, 0, 0), (259, .if_icmp .ge 16, 3, 0, 0, 0), (262, .aload_n 0, 1, 0, 0, 0), (263, .aload_n 1, 1, 0, 0, 0), (264, .iload 4, 2, 0, 0, 0), (266, .invokevirtual 111, 3, 10, 2, 0), (269, .iinc 4 1, 3, 0, 0, 0)],
  [(272, .goto (-22), 3, 0, 0, 0), (275, .return_, 1, 0, 0, 0)]]
/-- Night.prepareQuarter -/
def et_43 : List (List ex_I) := [[(0, .iconst 0, 1, 0, 0, 0), (1, .istore_n 3, 1, 0, 0, 0), (2, .iload_n 3, 1, 0, 0, 0), (3, .aload_n 0, 1, 0, 0, 0), (4, .getfield 56, 3, 5, 0, 3), (7, .invokevirtual 84, 3, 3, 0, 0), (10, .if_icmp .ge 35, 3, 0, 0, 0), (13, .aload_n 0, 1, 0, 0, 0), (14, .getfield 41, 3, 5, 10, 3)],
  [(17, .iload_n 2, 1, 0, 0, 0), (18, .aaload, 1, 0, 0, 0), (19, .iload_n 3, 1, 0, 0, 0), (20, .iconst 0, 1, 0, 0, 0), (21, .iastore, 1, 0, 0, 0), (22, .aload_n 0, 1, 0, 0, 0), (23, .getfield 44, 3, 5, 11, 3), (26, .iload_n 2, 1, 0, 0, 0), (27, .aaload, 1, 0, 0, 0), (28, .iload_n 3, 1, 0, 0, 0), (29, .aload_n 0, 1, 0, 0, 0), (30, .getfield 56, 3, 5, 0, 3)],
  [(33, .iload_n 2, 1, 0, 0, 0), (34, .iload_n 3, 1, 0, 0, 0), (35, .invokevirtual 115, 3, 11, 2, 0), (38, .iastore, 1, 0, 0, 0), (39, .iinc 3 1, 3, 0, 0, 0), (42, .goto (-40), 3, 0, 0, 0), (45, .iconst 0, 1, 0, 0, 0), (46, .istore_n 3, 1, 0, 0, 0), (47, .iload_n 3, 1, 0, 0, 0)],
  [(48, .aload_n 0, 1, 0, 0, 0), (49, .getfield 56, 3, 5, 0, 3), (52, .getfield 97, 3, 0, 14, 0), (55, .if_icmp .ge 89, 3, 0, 0, 0), (58, .aload_n 1, 1, 0, 0, 0), (59, .aload_n 0, 1, 0, 0, 0), (60, .getfield 56, 3, 5, 0, 3), (63, .aload_n 0, 1, 0, 0, 0)],
  [(64, .getfield 56, 3, 5, 0, 3), (67, .aload_n 0, 1, 0, 0, 0), (68, .getfield 56, 3, 5, 0, 3), (71, .getfield 119, 3, 0, 8, 3), (74, .iload_n 3, 1, 0, 0, 0), (75, .iaload, 1, 0, 0, 0), (76, .invokevirtual 122, 3, 5, 1, 0), (79, .iload_n 2, 1, 0, 0, 0)],
  [(80, .invokevirtual 126, 3, 12, 3, 0), (83, .istore 4, 2, 0, 0, 0), (85, .aload_n 0, 1, 0, 0, 0), (86, .getfield 38, 3, 5, 9, 3), (89, .iload_n 2, 1, 0, 0, 0), (90, .aaload, 1, 0, 0, 0), (91, .iload_n 3, 1, 0, 0, 0), (92, .aload_n 0, 1, 0, 0, 0), (93, .getfield 56, 3, 5, 0, 3)],
  [(96, .iload 4, 2, 0, 0, 0), (98, .invokevirtual 129, 3, 13, 1, 0), (101, .ifCond .eq 8, 3, 0, 0, 0), (104, .iload 4, 2, 0, 0, 0), (106, .goto 4, 3, 0, 0, 0), (109, .iconst 0, 1, 0, 0, 0), (110, .iastore, 1, 0, 0, 0), (111, .aload_n 0, 1, 0, 0, 0)],
  [(112, .getfield 41, 3, 5, 10, 3), (115, .iload_n 2, 1, 0, 0, 0), (116, .aaload, 1, 0, 0, 0), (117, .aload_n 0, 1, 0, 0, 0), (118, .getfield 38, 3, 5, 9, 3), (121, .iload_n 2, 1, 0, 0, 0), (122, .aaload, 1, 0, 0, 0), (123, .iload_n 3, 1, 0, 0, 0), (124, .iaload, 1, 0, 0, 0), (125, .dup2, 1, 0, 0, 0), (126, .iaload, 1, 0, 0, 0), (127, .aload_n 0, 1, 0, 0, 0)],
  [(128, .getfield 56, 3, 5, 0, 3), (131, .getfield 133, 3, 0, 9, 3), (134, .iload_n 3, 1, 0, 0, 0), (135, .iaload, 1, 0, 0, 0), (136, .iadd, 1, 0, 0, 0), (137, .iastore, 1, 0, 0, 0), (138, .iinc 3 1, 3, 0, 0, 0), (141, .goto (-94), 3, 0, 0, 0)],
  [(144, .return_, 1, 0, 0, 0)]]
/-- Night.step -/
def et_44 : List (List ex_I) := [[(0, .aload_n 0, 1, 0, 0, 0), (1, .iload_n 1, 1, 0, 0, 0), (2, .iload_n 2, 1, 0, 0, 0), (3, .invokevirtual 136, 3, 14, 2, 0), (6, .aload_n 0, 1, 0, 0, 0), (7, .iload_n 1, 1, 0, 0, 0), (8, .invokevirtual 139, 3, 15, 1, 0), (11, .return_, 1, 0, 0, 0)]]
/-- Night.warm -/
def et_45 : List (List ex_I) := [[(0, .aload_n 0, 1, 0, 0, 0), (1, .getfield 56, 3, 5, 0, 3), (4, .invokevirtual 84, 3, 3, 0, 0), (7, .istore_n 3, 1, 0, 0, 0), (8, .aload_n 0, 1, 0, 0, 0), (9, .getfield 11, 3, 5, 1, 3), (12, .iload_n 1, 1, 0, 0, 0), (13, .iconst 1, 1, 0, 0, 0), (14, .iadd, 1, 0, 0, 0), (15, .aaload, 1, 0, 0, 0)],
  [(16, .astore 4, 2, 0, 0, 0), (18, .aload_n 0, 1, 0, 0, 0), (19, .getfield 11, 3, 5, 1, 3), (22, .iload_n 1, 1, 0, 0, 0), (23, .aaload, 1, 0, 0, 0), (24, .iconst 0, 1, 0, 0, 0), (25, .aload 4, 2, 0, 0, 0), (27, .iconst 0, 1, 0, 0, 0), (28, .iload_n 3, 1, 0, 0, 0), (29, .invokestatic 143, 3, 0, 0, 1)],
  [(32, .aload_n 0, 1, 0, 0, 0), (33, .getfield 26, 3, 5, 5, 3), (36, .iload_n 1, 1, 0, 0, 0), (37, .iload_n 2, 1, 0, 0, 0), (38, .iastore, 1, 0, 0, 0), (39, .aload_n 0, 1, 0, 0, 0), (40, .getfield 16, 3, 5, 2, 3), (43, .iload_n 1, 1, 0, 0, 0), (44, .iconst 1, 1, 0, 0, 0), (45, .iadd, 1, 0, 0, 0), (46, .aload_n 0, 1, 0, 0, 0), (47, .getfield 16, 3, 5, 2, 3)],
  [(50, .iload_n 1, 1, 0, 0, 0), (51, .iaload, 1, 0, 0, 0), (52, .iload_n 2, 1, 0, 0, 0), (53, .isub, 1, 0, 0, 0), (54, .iastore, 1, 0, 0, 0), (55, .aload 4, 2, 0, 0, 0), (57, .aload_n 0, 1, 0, 0, 0), (58, .getfield 56, 3, 5, 0, 3), (61, .aload_n 0, 1, 0, 0, 0), (62, .getfield 56, 3, 5, 0, 3)],
  [(65, .getfield 94, 3, 0, 0, 3), (68, .iconst 1, 1, 0, 0, 0), (69, .iaload, 1, 0, 0, 0), (70, .invokevirtual 122, 3, 5, 1, 0), (73, .dup2, 1, 0, 0, 0), (74, .iaload, 1, 0, 0, 0), (75, .aload_n 0, 1, 0, 0, 0), (76, .getfield 56, 3, 5, 0, 3), (79, .getfield 94, 3, 0, 0, 3)],
  [(82, .iconst 4, 1, 0, 0, 0), (83, .iaload, 1, 0, 0, 0), (84, .iload_n 2, 1, 0, 0, 0), (85, .imul, 1, 0, 0, 0), (86, .iadd, 1, 0, 0, 0), (87, .iastore, 1, 0, 0, 0), (88, .aload_n 0, 1, 0, 0, 0), (89, .getfield 80, 3, 5, 15, 0), (92, .iload_n 1, 1, 0, 0, 0), (93, .invokestatic 107, 3, 15, 2, 0)],
  [(96, .ifCond .eq 56, 3, 0, 0, 0), (99, .aload 4, 2, 0, 0, 0), (101, .aload_n 0, 1, 0, 0, 0), (102, .getfield 56, 3, 5, 0, 3), (105, .aload_n 0, 1, 0, 0, 0), (106, .getfield 56, 3, 5, 0, 3), (109, .getfield 94, 3, 0, 0, 3)],
  [(112, .iconst 2, 1, 0, 0, 0), (113, .iaload, 1, 0, 0, 0), (114, .invokevirtual 122, 3, 5, 1, 0), (117, .dup2, 1, 0, 0, 0), (118, .iaload, 1, 0, 0, 0), (119, .aload_n 0, 1, 0, 0, 0), (120, .getfield 56, 3, 5, 0, 3), (123, .getfield 94, 3, 0, 0, 3), (126, .bipush 7, 2, 0, 0, 0)],
  [(128, .iaload, 1, 0, 0, 0), (129, .isub, 1, 0, 0, 0), (130, .iastore, 1, 0, 0, 0), (131, .aload_n 0, 1, 0, 0, 0), (132, .getfield 16, 3, 5, 2, 3), (135, .iload_n 1, 1, 0, 0, 0), (136, .iconst 1, 1, 0, 0, 0), (137, .iadd, 1, 0, 0, 0), (138, .dup2, 1, 0, 0, 0), (139, .iaload, 1, 0, 0, 0), (140, .aload_n 0, 1, 0, 0, 0), (141, .getfield 56, 3, 5, 0, 3)],
  [(144, .getfield 94, 3, 0, 0, 3), (147, .bipush 8, 2, 0, 0, 0), (149, .iaload, 1, 0, 0, 0), (150, .iadd, 1, 0, 0, 0), (151, .iastore, 1, 0, 0, 0), (152, .iconst 0, 1, 0, 0, 0), (153, .istore 5, 2, 0, 0, 0), (155, .iload 5, 2, 0, 0, 0), (157, .iconst 1, 1, 0, 0, 0), (158, .iadd, 1, 0, 0, 0), (159, .iload_n 3, 1, 0, 0, 0)],
  [(160, .if_icmp .ge 40, 3, 0, 0, 0), (163, .aload_n 0, 1, 0, 0, 0), (164, .getfield 50, 3, 5, 13, 3), (167, .iload 5, 2, 0, 0, 0), (169, .aload 4, 2, 0, 0, 0), (171, .iload 5, 2, 0, 0, 0), (173, .iaload, 1, 0, 0, 0), (174, .aload 4, 2, 0, 0, 0)],
  [(176, .iload 5, 2, 0, 0, 0), (178, .iconst 1, 1, 0, 0, 0), (179, .iadd, 1, 0, 0, 0), (180, .iaload, 1, 0, 0, 0), (181, .isub, 1, 0, 0, 0), (182, .aload_n 0, 1, 0, 0, 0), (183, .getfield 47, 3, 5, 12, 3), (186, .iload 5, 2, 0, 0, 0), (188, .iaload, 1, 0, 0, 0), (189, .imul, 1, 0, 0, 0), (190, .bipush 100, 2, 0, 0, 0)],
  [(192, .idiv, 1, 0, 0, 0), (193, .iastore, 1, 0, 0, 0), (194, .iinc 5 1, 3, 0, 0, 0), (197, .goto (-42), 3, 0, 0, 0), (200, .iconst 0, 1, 0, 0, 0), (201, .istore 5, 2, 0, 0, 0), (203, .iload 5, 2, 0, 0, 0), (205, .iconst 1, 1, 0, 0, 0), (206, .iadd, 1, 0, 0, 0), (207, .iload_n 3, 1, 0, 0, 0)],
  [(208, .if_icmp .ge 41, 3, 0, 0, 0), (211, .aload 4, 2, 0, 0, 0), (213, .iload 5, 2, 0, 0, 0), (215, .dup2, 1, 0, 0, 0), (216, .iaload, 1, 0, 0, 0), (217, .aload_n 0, 1, 0, 0, 0), (218, .getfield 50, 3, 5, 13, 3), (221, .iload 5, 2, 0, 0, 0), (223, .iaload, 1, 0, 0, 0)],
  [(224, .isub, 1, 0, 0, 0), (225, .iastore, 1, 0, 0, 0), (226, .aload 4, 2, 0, 0, 0), (228, .iload 5, 2, 0, 0, 0), (230, .iconst 1, 1, 0, 0, 0), (231, .iadd, 1, 0, 0, 0), (232, .dup2, 1, 0, 0, 0), (233, .iaload, 1, 0, 0, 0), (234, .aload_n 0, 1, 0, 0, 0), (235, .getfield 50, 3, 5, 13, 3), (238, .iload 5, 2, 0, 0, 0)],
  [(240, .iaload, 1, 0, 0, 0), (241, .iadd, 1, 0, 0, 0), (242, .iastore, 1, 0, 0, 0), (243, .iinc 5 1, 3, 0, 0, 0), (246, .goto (-43), 3, 0, 0, 0), (249, .aload_n 0, 1, 0, 0, 0), (250, .getfield 56, 3, 5, 0, 3), (253, .getfield 149, 3, 0, 5, 3)],
  [(256, .iload_n 1, 1, 0, 0, 0), (257, .iaload, 1, 0, 0, 0), (258, .istore 5, 2, 0, 0, 0), (260, .iconst 0, 1, 0, 0, 0), (261, .istore 6, 2, 0, 0, 0), (263, .iload 6, 2, 0, 0, 0), (265, .iload_n 3, 1, 0, 0, 0), (266, .if_icmp .ge 55, 3, 0, 0, 0), (269, .aload 4, 2, 0, 0, 0), (271, .iload 6, 2, 0, 0, 0)],
  [(273, .dup2, 1, 0, 0, 0), (274, .iaload, 1, 0, 0, 0), (275, .aload_n 0, 1, 0, 0, 0), (276, .getfield 41, 3, 5, 10, 3), (279, .iload_n 1, 1, 0, 0, 0), (280, .aaload, 1, 0, 0, 0), (281, .iload 6, 2, 0, 0, 0), (283, .iaload, 1, 0, 0, 0), (284, .iadd, 1, 0, 0, 0), (285, .iastore, 1, 0, 0, 0), (286, .aload 4, 2, 0, 0, 0)],
  [(288, .iload 6, 2, 0, 0, 0), (290, .dup2, 1, 0, 0, 0), (291, .iaload, 1, 0, 0, 0), (292, .aload 4, 2, 0, 0, 0), (294, .iload 6, 2, 0, 0, 0), (296, .iaload, 1, 0, 0, 0), (297, .iload 5, 2, 0, 0, 0), (299, .isub, 1, 0, 0, 0), (300, .aload_n 0, 1, 0, 0, 0), (301, .getfield 44, 3, 5, 11, 3)],
  [(304, .iload_n 1, 1, 0, 0, 0), (305, .aaload, 1, 0, 0, 0), (306, .iload 6, 2, 0, 0, 0), (308, .iaload, 1, 0, 0, 0), (309, .imul, 1, 0, 0, 0), (310, .bipush 100, 2, 0, 0, 0), (312, .idiv, 1, 0, 0, 0), (313, .isub, 1, 0, 0, 0), (314, .iastore, 1, 0, 0, 0), (315, .iinc 6 1, 3, 0, 0, 0), (318, .goto (-55), 3, 0, 0, 0)],
  [(321, .return_, 1, 0, 0, 0)]]
/-- Night.judge -/
def et_46 : List (List ex_I) := [[(0, .aload_n 0, 1, 0, 0, 0), (1, .getfield 20, 3, 5, 3, 3), (4, .iload_n 1, 1, 0, 0, 0), (5, .iconst 1, 1, 0, 0, 0), (6, .iadd, 1, 0, 0, 0), (7, .aload_n 0, 1, 0, 0, 0), (8, .getfield 20, 3, 5, 3, 3), (11, .iload_n 1, 1, 0, 0, 0), (12, .iaload, 1, 0, 0, 0), (13, .iastore, 1, 0, 0, 0), (14, .aload_n 0, 1, 0, 0, 0), (15, .getfield 23, 3, 5, 4, 3)],
  [(18, .iload_n 1, 1, 0, 0, 0), (19, .iconst 1, 1, 0, 0, 0), (20, .iadd, 1, 0, 0, 0), (21, .aload_n 0, 1, 0, 0, 0), (22, .getfield 23, 3, 5, 4, 3), (25, .iload_n 1, 1, 0, 0, 0), (26, .iaload, 1, 0, 0, 0), (27, .iastore, 1, 0, 0, 0), (28, .iconst 0, 1, 0, 0, 0), (29, .istore_n 2, 1, 0, 0, 0), (30, .iload_n 2, 1, 0, 0, 0), (31, .aload_n 0, 1, 0, 0, 0)],
  [(32, .getfield 56, 3, 5, 0, 3), (35, .getfield 97, 3, 0, 14, 0), (38, .if_icmp .ge 170, 3, 0, 0, 0), (41, .aload_n 0, 1, 0, 0, 0), (42, .iload_n 1, 1, 0, 0, 0), (43, .iload_n 2, 1, 0, 0, 0), (44, .invokevirtual 152, 3, 16, 2, 0), (47, .istore_n 3, 1, 0, 0, 0)],
  [(48, .aload_n 0, 1, 0, 0, 0), (49, .getfield 32, 3, 5, 7, 3), (52, .iload_n 1, 1, 0, 0, 0), (53, .iconst 1, 1, 0, 0, 0), (54, .iadd, 1, 0, 0, 0), (55, .aaload, 1, 0, 0, 0), (56, .iload_n 2, 1, 0, 0, 0), (57, .aload_n 0, 1, 0, 0, 0), (58, .getfield 32, 3, 5, 7, 3), (61, .iload_n 1, 1, 0, 0, 0), (62, .aaload, 1, 0, 0, 0), (63, .iload_n 2, 1, 0, 0, 0)],
  [(64, .iaload, 1, 0, 0, 0), (65, .iload_n 3, 1, 0, 0, 0), (66, .invokestatic 155, 3, 208, 2, 0), (69, .iastore, 1, 0, 0, 0), (70, .aload_n 0, 1, 0, 0, 0), (71, .getfield 20, 3, 5, 3, 3), (74, .iload_n 1, 1, 0, 0, 0), (75, .iconst 1, 1, 0, 0, 0), (76, .iadd, 1, 0, 0, 0), (77, .aload_n 0, 1, 0, 0, 0), (78, .getfield 20, 3, 5, 3, 3)],
  [(81, .iload_n 1, 1, 0, 0, 0), (82, .iconst 1, 1, 0, 0, 0), (83, .iadd, 1, 0, 0, 0), (84, .iaload, 1, 0, 0, 0), (85, .iload_n 3, 1, 0, 0, 0), (86, .invokestatic 155, 3, 208, 2, 0), (89, .iastore, 1, 0, 0, 0), (90, .aload_n 0, 1, 0, 0, 0), (91, .getfield 29, 3, 5, 6, 3), (94, .iload_n 1, 1, 0, 0, 0), (95, .iconst 1, 1, 0, 0, 0)],
  [(96, .iadd, 1, 0, 0, 0), (97, .aaload, 1, 0, 0, 0), (98, .iload_n 2, 1, 0, 0, 0), (99, .iload_n 3, 1, 0, 0, 0), (100, .ifCond .ge 16, 3, 0, 0, 0), (103, .aload_n 0, 1, 0, 0, 0), (104, .getfield 29, 3, 5, 6, 3), (107, .iload_n 1, 1, 0, 0, 0), (108, .aaload, 1, 0, 0, 0), (109, .iload_n 2, 1, 0, 0, 0), (110, .iaload, 1, 0, 0, 0), (111, .iconst 1, 1, 0, 0, 0)],
  [(112, .iadd, 1, 0, 0, 0), (113, .goto 4, 3, 0, 0, 0), (116, .iconst 0, 1, 0, 0, 0), (117, .iastore, 1, 0, 0, 0), (118, .aload_n 0, 1, 0, 0, 0), (119, .getfield 35, 3, 5, 8, 3), (122, .iload_n 1, 1, 0, 0, 0), (123, .iconst 1, 1, 0, 0, 0), (124, .iadd, 1, 0, 0, 0), (125, .aaload, 1, 0, 0, 0), (126, .iload_n 2, 1, 0, 0, 0), (127, .aload_n 0, 1, 0, 0, 0)],
  [(128, .getfield 35, 3, 5, 8, 3), (131, .iload_n 1, 1, 0, 0, 0), (132, .aaload, 1, 0, 0, 0), (133, .iload_n 2, 1, 0, 0, 0), (134, .iaload, 1, 0, 0, 0), (135, .iastore, 1, 0, 0, 0), (136, .aload_n 0, 1, 0, 0, 0), (137, .getfield 35, 3, 5, 8, 3), (140, .iload_n 1, 1, 0, 0, 0), (141, .aaload, 1, 0, 0, 0), (142, .iload_n 2, 1, 0, 0, 0), (143, .iaload, 1, 0, 0, 0)],
  [(144, .bipush 24, 2, 0, 0, 0), (146, .if_icmp .ne 56, 3, 0, 0, 0), (149, .aload_n 0, 1, 0, 0, 0), (150, .getfield 29, 3, 5, 6, 3), (153, .iload_n 1, 1, 0, 0, 0), (154, .iconst 1, 1, 0, 0, 0), (155, .iadd, 1, 0, 0, 0), (156, .aaload, 1, 0, 0, 0), (157, .iload_n 2, 1, 0, 0, 0), (158, .iaload, 1, 0, 0, 0), (159, .aload_n 0, 1, 0, 0, 0)],
  [(160, .getfield 56, 3, 5, 0, 3), (163, .getfield 160, 3, 0, 11, 3), (166, .iload_n 2, 1, 0, 0, 0), (167, .iaload, 1, 0, 0, 0), (168, .if_icmp .le 34, 3, 0, 0, 0), (171, .aload_n 0, 1, 0, 0, 0), (172, .getfield 35, 3, 5, 8, 3), (175, .iload_n 1, 1, 0, 0, 0)],
  [(176, .iconst 1, 1, 0, 0, 0), (177, .iadd, 1, 0, 0, 0), (178, .aaload, 1, 0, 0, 0), (179, .iload_n 2, 1, 0, 0, 0), (180, .iload_n 1, 1, 0, 0, 0), (181, .iastore, 1, 0, 0, 0), (182, .aload_n 0, 1, 0, 0, 0), (183, .getfield 23, 3, 5, 4, 3), (186, .iload_n 1, 1, 0, 0, 0), (187, .iconst 1, 1, 0, 0, 0), (188, .iadd, 1, 0, 0, 0), (189, .aload_n 0, 1, 0, 0, 0), (190, .getfield 23, 3, 5, 4, 3)],
  [(193, .iload_n 1, 1, 0, 0, 0), (194, .iconst 1, 1, 0, 0, 0), (195, .iadd, 1, 0, 0, 0), (196, .iaload, 1, 0, 0, 0), (197, .iload_n 1, 1, 0, 0, 0), (198, .invokestatic 155, 3, 208, 2, 0), (201, .iastore, 1, 0, 0, 0), (202, .iinc 2 1, 3, 0, 0, 0), (205, .goto (-175), 3, 0, 0, 0)],
  [(208, .return_, 1, 0, 0, 0)]]
/-- Night.marginOf -/
def et_47 : List (List ex_I) := [[(0, .aload_n 0, 1, 0, 0, 0), (1, .getfield 11, 3, 5, 1, 3), (4, .iload_n 1, 1, 0, 0, 0), (5, .iconst 1, 1, 0, 0, 0), (6, .iadd, 1, 0, 0, 0), (7, .aaload, 1, 0, 0, 0), (8, .aload_n 0, 1, 0, 0, 0), (9, .getfield 38, 3, 5, 9, 3), (12, .iload_n 1, 1, 0, 0, 0), (13, .aaload, 1, 0, 0, 0), (14, .iload_n 2, 1, 0, 0, 0), (15, .iaload, 1, 0, 0, 0)],
  [(16, .iaload, 1, 0, 0, 0), (17, .aload_n 0, 1, 0, 0, 0), (18, .getfield 53, 3, 5, 14, 3), (21, .iload_n 2, 1, 0, 0, 0), (22, .iaload, 1, 0, 0, 0), (23, .isub, 1, 0, 0, 0), (24, .ireturn, 1, 0, 0, 0)]]
/-- Night.worstOfAll -/
def et_48 : List (List ex_I) := [[(0, .aload_n 0, 1, 0, 0, 0), (1, .getfield 20, 3, 5, 3, 3), (4, .aload_n 0, 1, 0, 0, 0), (5, .getfield 56, 3, 5, 0, 3), (8, .invokevirtual 64, 3, 4, 0, 0), (11, .iaload, 1, 0, 0, 0), (12, .ireturn, 1, 0, 0, 0)]]
/-- Night.fallsAt -/
def et_49 : List (List ex_I) := [[(0, .aload_n 0, 1, 0, 0, 0), (1, .getfield 23, 3, 5, 4, 3), (4, .aload_n 0, 1, 0, 0, 0), (5, .getfield 56, 3, 5, 0, 3), (8, .invokevirtual 64, 3, 4, 0, 0), (11, .iaload, 1, 0, 0, 0), (12, .ireturn, 1, 0, 0, 0)]]
/-- Night.firstLost -/
def et_50 : List (List ex_I) := [[(0, .iconst 0, 1, 0, 0, 0), (1, .istore_n 1, 1, 0, 0, 0), (2, .iload_n 1, 1, 0, 0, 0), (3, .aload_n 0, 1, 0, 0, 0), (4, .getfield 56, 3, 5, 0, 3), (7, .getfield 97, 3, 0, 14, 0), (10, .if_icmp .ge 32, 3, 0, 0, 0), (13, .aload_n 0, 1, 0, 0, 0), (14, .getfield 35, 3, 5, 8, 3)],
  [(17, .aload_n 0, 1, 0, 0, 0), (18, .getfield 56, 3, 5, 0, 3), (21, .invokevirtual 64, 3, 4, 0, 0), (24, .aaload, 1, 0, 0, 0), (25, .iload_n 1, 1, 0, 0, 0), (26, .iaload, 1, 0, 0, 0), (27, .aload_n 0, 1, 0, 0, 0), (28, .invokevirtual 163, 3, 17, 0, 0), (31, .if_icmp .ne 5, 3, 0, 0, 0)],
  [(34, .iload_n 1, 1, 0, 0, 0), (35, .ireturn, 1, 0, 0, 0), (36, .iinc 1 1, 3, 0, 0, 0), (39, .goto (-37), 3, 0, 0, 0), (42, .iconst (-1), 1, 0, 0, 0), (43, .ireturn, 1, 0, 0, 0)]]
/-- Night.unfairness -/
def et_51 : List (List ex_I) := [[(0, .aload_n 0, 1, 0, 0, 0), (1, .getfield 56, 3, 5, 0, 3), (4, .getfield 97, 3, 0, 14, 0), (7, .ifCond .ne 5, 3, 0, 0, 0), (10, .iconst 0, 1, 0, 0, 0), (11, .ireturn, 1, 0, 0, 0), (12, .ldc 166, 2, 0, 0, (-1000000)), (14, .istore_n 1, 1, 0, 0, 0), (15, .ldc 100, 2, 0, 0, 1000000)],
  [(17, .istore_n 2, 1, 0, 0, 0), (18, .iconst 0, 1, 0, 0, 0), (19, .istore_n 3, 1, 0, 0, 0), (20, .iload_n 3, 1, 0, 0, 0), (21, .aload_n 0, 1, 0, 0, 0), (22, .getfield 56, 3, 5, 0, 3), (25, .getfield 97, 3, 0, 14, 0), (28, .if_icmp .ge 49, 3, 0, 0, 0), (31, .aload_n 0, 1, 0, 0, 0)],
  [(32, .getfield 32, 3, 5, 7, 3), (35, .aload_n 0, 1, 0, 0, 0), (36, .getfield 56, 3, 5, 0, 3), (39, .invokevirtual 64, 3, 4, 0, 0), (42, .aaload, 1, 0, 0, 0), (43, .iload_n 3, 1, 0, 0, 0), (44, .iaload, 1, 0, 0, 0), (45, .aload_n 0, 1, 0, 0, 0), (46, .getfield 56, 3, 5, 0, 3)],
  [(49, .getfield 101, 3, 0, 10, 3), (52, .iload_n 3, 1, 0, 0, 0), (53, .iaload, 1, 0, 0, 0), (54, .iadd, 1, 0, 0, 0), (55, .istore 4, 2, 0, 0, 0), (57, .iload_n 1, 1, 0, 0, 0), (58, .iload 4, 2, 0, 0, 0), (60, .invokestatic 167, 3, 207, 2, 0), (63, .istore_n 1, 1, 0, 0, 0)],
  [(64, .iload_n 2, 1, 0, 0, 0), (65, .iload 4, 2, 0, 0, 0), (67, .invokestatic 155, 3, 208, 2, 0), (70, .istore_n 2, 1, 0, 0, 0), (71, .iinc 3 1, 3, 0, 0, 0), (74, .goto (-54), 3, 0, 0, 0), (77, .iload_n 1, 1, 0, 0, 0), (78, .iload_n 2, 1, 0, 0, 0), (79, .isub, 1, 0, 0, 0)],
  [(80, .ireturn, 1, 0, 0, 0)]]
/-- Planned.<init> -/
def et_52 : List (List ex_I) := [[(0, .aload_n 0, 1, 0, 0, 0), (1, .invokespecial 1, 3, 30, 0, 0), (4, .return_, 1, 0, 0, 0)]]
/-- Planned.pieces -/
def et_53 : List (List ex_I) := [[(0, .aload_n 0, 1, 0, 0, 0), (1, .aload_n 1, 1, 0, 0, 0), (2, .aload_n 1, 1, 0, 0, 0), (3, .getfield 7, 3, 0, 7, 3), (6, .iload_n 3, 1, 0, 0, 0), (7, .iaload, 1, 0, 0, 0), (8, .iload_n 3, 1, 0, 0, 0), (9, .iload 4, 2, 0, 0, 0), (11, .invokespecial 13, 3, 31, 4, 0), (14, .ireturn, 1, 0, 0, 0)]]
/-- Search.<init> -/
def et_54 : List (List ex_I) := [[(0, .aload_n 0, 1, 0, 0, 0), (1, .invokespecial 3, 3, 0, 0, 1), (4, .aload_n 0, 1, 0, 0, 0), (5, .bipush 8, 2, 0, 0, 0), (7, .newarray .int, 2, 0, 0, 0), (9, .putfield 9, 3, 7, 2, 3), (12, .aload_n 0, 1, 0, 0, 0), (13, .bipush 8, 2, 0, 0, 0), (15, .newarray .int, 2, 0, 0, 0)],
  [(17, .putfield 15, 3, 7, 3, 3), (20, .aload_n 0, 1, 0, 0, 0), (21, .aload_n 1, 1, 0, 0, 0), (22, .putfield 18, 3, 7, 0, 3), (25, .aload_n 0, 1, 0, 0, 0), (26, .aload_n 2, 1, 0, 0, 0), (27, .putfield 22, 3, 7, 1, 3), (30, .return_, 1, 0, 0, 0)]]
/-- Search.find -/
def et_55 : List (List ex_I) := [[(0, .aload_n 0, 1, 0, 0, 0), (1, .getfield 18, 3, 7, 0, 3), (4, .getfield 26, 3, 0, 19, 1), (7, .ifCond .ne 4, 3, 0, 0, 0), (10, .return_, 1, 0, 0, 0), (11, .aload_n 0, 1, 0, 0, 0), (12, .iconst (-1), 1, 0, 0, 0), (13, .putfield 32, 3, 7, 4, 0)],
  [(16, .aload_n 0, 1, 0, 0, 0), (17, .iconst 0, 1, 0, 0, 0), (18, .putfield 36, 3, 7, 6, 0), (21, .aload_n 0, 1, 0, 0, 0), (22, .iconst 0, 1, 0, 0, 0), (23, .putfield 39, 3, 7, 5, 0), (26, .aload_n 0, 1, 0, 0, 0), (27, .getfield 22, 3, 7, 1, 3), (30, .aload_n 1, 1, 0, 0, 0), (31, .aload_n 0, 1, 0, 0, 0)],
  [(32, .getfield 18, 3, 7, 0, 3), (35, .getfield 42, 3, 0, 17, 0), (38, .aload_n 0, 1, 0, 0, 0), (39, .getfield 18, 3, 7, 0, 3), (42, .getfield 45, 3, 0, 18, 0), (45, .invokevirtual 48, 3, 6, 3, 0)],
  [(48, .aload_n 0, 1, 0, 0, 0), (49, .iconst 0, 1, 0, 0, 0), (50, .iconst 0, 1, 0, 0, 0), (51, .invokevirtual 54, 3, 18, 2, 0), (54, .aload_n 0, 1, 0, 0, 0), (55, .getfield 18, 3, 7, 0, 3), (58, .iconst 0, 1, 0, 0, 0), (59, .putfield 26, 3, 0, 19, 1), (62, .return_, 1, 0, 0, 0)]]
/-- Search.piecesIn -/
def et_56 : List (List ex_I) := [[(0, .iload_n 1, 1, 0, 0, 0), (1, .iconst 0, 1, 0, 0, 0), (2, .bipush 7, 2, 0, 0, 0), (4, .invokestatic 58, 3, 119, 3, 0), (7, .ifCond .eq 12, 3, 0, 0, 0), (10, .aload_n 0, 1, 0, 0, 0), (11, .getfield 15, 3, 7, 3, 3), (14, .iload_n 1, 1, 0, 0, 0), (15, .iaload, 1, 0, 0, 0)],
  [(16, .goto 4, 3, 0, 0, 0), (19, .iconst 0, 1, 0, 0, 0), (20, .ireturn, 1, 0, 0, 0)]]
/-- Search.goOn -/
def et_57 : List (List ex_I) := [[(0, .aload_n 0, 1, 0, 0, 0), (1, .aload_n 0, 1, 0, 0, 0), (2, .getfield 22, 3, 7, 1, 3), (5, .getfield 62, 3, 5, 4, 3), (8, .iload_n 1, 1, 0, 0, 0), (9, .iaload, 1, 0, 0, 0), (10, .aload_n 0, 1, 0, 0, 0), (11, .getfield 22, 3, 7, 1, 3), (14, .getfield 65, 3, 5, 3, 3)],
  [(17, .iload_n 1, 1, 0, 0, 0), (18, .iaload, 1, 0, 0, 0), (19, .iload_n 2, 1, 0, 0, 0), (20, .invokevirtual 68, 3, 19, 3, 0), (23, .ifCond .ne 4, 3, 0, 0, 0), (26, .return_, 1, 0, 0, 0), (27, .iload_n 1, 1, 0, 0, 0), (28, .aload_n 0, 1, 0, 0, 0), (29, .getfield 18, 3, 7, 0, 3)],
  [(32, .invokevirtual 71, 3, 4, 0, 0), (35, .if_icmp .ge 9, 3, 0, 0, 0), (38, .iload_n 1, 1, 0, 0, 0), (39, .bipush 8, 2, 0, 0, 0), (41, .if_icmp .lt 50, 3, 0, 0, 0), (44, .aload_n 0, 1, 0, 0, 0), (45, .getfield 9, 3, 7, 2, 3)],
  [(48, .iconst 0, 1, 0, 0, 0), (49, .aload_n 0, 1, 0, 0, 0), (50, .getfield 15, 3, 7, 3, 3), (53, .iconst 0, 1, 0, 0, 0), (54, .bipush 8, 2, 0, 0, 0), (56, .invokestatic 75, 3, 0, 0, 1), (59, .aload_n 0, 1, 0, 0, 0), (60, .aload_n 0, 1, 0, 0, 0), (61, .getfield 22, 3, 7, 1, 3)],
  [(64, .getfield 62, 3, 5, 4, 3), (67, .iload_n 1, 1, 0, 0, 0), (68, .iaload, 1, 0, 0, 0), (69, .putfield 32, 3, 7, 4, 0), (72, .aload_n 0, 1, 0, 0, 0), (73, .aload_n 0, 1, 0, 0, 0), (74, .getfield 22, 3, 7, 1, 3), (77, .getfield 65, 3, 5, 3, 3)],
  [(80, .iload_n 1, 1, 0, 0, 0), (81, .iaload, 1, 0, 0, 0), (82, .putfield 36, 3, 7, 6, 0), (85, .aload_n 0, 1, 0, 0, 0), (86, .iload_n 2, 1, 0, 0, 0), (87, .putfield 39, 3, 7, 5, 0), (90, .return_, 1, 0, 0, 0), (91, .iconst 0, 1, 0, 0, 0), (92, .istore_n 3, 1, 0, 0, 0), (93, .iload_n 3, 1, 0, 0, 0), (94, .iconst 2, 1, 0, 0, 0), (95, .if_icmp .gt 48, 3, 0, 0, 0)],
  [(98, .iload_n 3, 1, 0, 0, 0), (99, .aload_n 0, 1, 0, 0, 0), (100, .getfield 22, 3, 7, 1, 3), (103, .getfield 81, 3, 5, 2, 3), (106, .iload_n 1, 1, 0, 0, 0), (107, .iaload, 1, 0, 0, 0), (108, .if_icmp .gt 35, 3, 0, 0, 0), (111, .aload_n 0, 1, 0, 0, 0)],
  [(112, .getfield 9, 3, 7, 2, 3), (115, .iload_n 1, 1, 0, 0, 0), (116, .iload_n 3, 1, 0, 0, 0), (117, .iastore, 1, 0, 0, 0), (118, .aload_n 0, 1, 0, 0, 0), (119, .getfield 22, 3, 7, 1, 3), (122, .iload_n 1, 1, 0, 0, 0), (123, .iload_n 3, 1, 0, 0, 0), (124, .invokevirtual 84, 3, 8, 2, 0), (127, .aload_n 0, 1, 0, 0, 0)],
  [(128, .iload_n 1, 1, 0, 0, 0), (129, .iconst 1, 1, 0, 0, 0), (130, .iadd, 1, 0, 0, 0), (131, .iload_n 2, 1, 0, 0, 0), (132, .iload_n 3, 1, 0, 0, 0), (133, .iadd, 1, 0, 0, 0), (134, .invokevirtual 54, 3, 18, 2, 0), (137, .iinc 3 1, 3, 0, 0, 0), (140, .goto (-47), 3, 0, 0, 0), (143, .return_, 1, 0, 0, 0)]]
/-- Search.leads -/
def et_58 : List (List ex_I) := [[(0, .iload_n 1, 1, 0, 0, 0), (1, .aload_n 0, 1, 0, 0, 0), (2, .getfield 32, 3, 7, 4, 0), (5, .if_icmp .eq 17, 3, 0, 0, 0), (8, .iload_n 1, 1, 0, 0, 0), (9, .aload_n 0, 1, 0, 0, 0), (10, .getfield 32, 3, 7, 4, 0), (13, .if_icmp .le 7, 3, 0, 0, 0)],
  [(16, .iconst 1, 1, 0, 0, 0), (17, .goto 4, 3, 0, 0, 0), (20, .iconst 0, 1, 0, 0, 0), (21, .ireturn, 1, 0, 0, 0), (22, .iload_n 2, 1, 0, 0, 0), (23, .aload_n 0, 1, 0, 0, 0), (24, .getfield 36, 3, 7, 6, 0), (27, .if_icmp .eq 17, 3, 0, 0, 0), (30, .iload_n 2, 1, 0, 0, 0), (31, .aload_n 0, 1, 0, 0, 0)],
  [(32, .getfield 36, 3, 7, 6, 0), (35, .if_icmp .le 7, 3, 0, 0, 0), (38, .iconst 1, 1, 0, 0, 0), (39, .goto 4, 3, 0, 0, 0), (42, .iconst 0, 1, 0, 0, 0), (43, .ireturn, 1, 0, 0, 0), (44, .iload_n 3, 1, 0, 0, 0), (45, .aload_n 0, 1, 0, 0, 0), (46, .getfield 39, 3, 7, 5, 0)],
  [(49, .if_icmp .ge 7, 3, 0, 0, 0), (52, .iconst 1, 1, 0, 0, 0), (53, .goto 4, 3, 0, 0, 0), (56, .iconst 0, 1, 0, 0, 0), (57, .ireturn, 1, 0, 0, 0)]]
/-- Sharing.<init> -/
def et_59 : List (List ex_I) := [[(0, .aload_n 0, 1, 0, 0, 0), (1, .invokespecial 3, 3, 0, 0, 1), (4, .aload_n 0, 1, 0, 0, 0), (5, .bipush 8, 2, 0, 0, 0), (7, .newarray .int, 2, 0, 0, 0), (9, .putfield 9, 3, 8, 2, 3), (12, .aload_n 0, 1, 0, 0, 0), (13, .bipush 8, 2, 0, 0, 0), (15, .newarray .int, 2, 0, 0, 0)],
  [(17, .putfield 15, 3, 8, 3, 3), (20, .aload_n 0, 1, 0, 0, 0), (21, .bipush 8, 2, 0, 0, 0), (23, .newarray .int, 2, 0, 0, 0), (25, .putfield 18, 3, 8, 4, 3), (28, .aload_n 0, 1, 0, 0, 0), (29, .iconst 2, 1, 0, 0, 0), (30, .bipush 8, 2, 0, 0, 0)],
  [(32, .multianewarray 21 2, 4, 0, 0, 0), (36, .putfield 23, 3, 8, 6, 3), (39, .aload_n 0, 1, 0, 0, 0), (40, .iconst 2, 1, 0, 0, 0), (41, .bipush 8, 2, 0, 0, 0), (43, .multianewarray 21 2, 4, 0, 0, 0), (47, .putfield 26, 3, 8, 7, 3)],
  [(50, .aload_n 0, 1, 0, 0, 0), (51, .aload_n 1, 1, 0, 0, 0), (52, .putfield 29, 3, 8, 0, 3), (55, .aload_n 0, 1, 0, 0, 0), (56, .aload_n 2, 1, 0, 0, 0), (57, .putfield 33, 3, 8, 1, 3), (60, .return_, 1, 0, 0, 0)]]
/-- Sharing.shareSeats -/
def et_60 : List (List ex_I) := [[(0, .iconst 0, 1, 0, 0, 0), (1, .istore_n 1, 1, 0, 0, 0), (2, .iload_n 1, 1, 0, 0, 0), (3, .aload_n 0, 1, 0, 0, 0), (4, .getfield 29, 3, 8, 0, 3), (7, .invokevirtual 37, 3, 3, 0, 0), (10, .if_icmp .ge 79, 3, 0, 0, 0), (13, .aload_n 0, 1, 0, 0, 0), (14, .getfield 15, 3, 8, 3, 3)],
  [(17, .iload_n 1, 1, 0, 0, 0), (18, .aload_n 0, 1, 0, 0, 0), (19, .getfield 29, 3, 8, 0, 3), (22, .getfield 43, 3, 0, 3, 3), (25, .iload_n 1, 1, 0, 0, 0), (26, .iaload, 1, 0, 0, 0), (27, .iastore, 1, 0, 0, 0), (28, .aload_n 0, 1, 0, 0, 0), (29, .getfield 9, 3, 8, 2, 3)],
  [(32, .iload_n 1, 1, 0, 0, 0), (33, .ldc 46, 2, 0, 0, 1000000), (35, .iastore, 1, 0, 0, 0), (36, .iconst 0, 1, 0, 0, 0), (37, .istore_n 2, 1, 0, 0, 0), (38, .iload_n 2, 1, 0, 0, 0), (39, .aload_n 0, 1, 0, 0, 0), (40, .getfield 29, 3, 8, 0, 3), (43, .invokevirtual 47, 3, 4, 0, 0), (46, .if_icmp .ge 37, 3, 0, 0, 0)],
  [(49, .aload_n 0, 1, 0, 0, 0), (50, .getfield 9, 3, 8, 2, 3), (53, .iload_n 1, 1, 0, 0, 0), (54, .aload_n 0, 1, 0, 0, 0), (55, .getfield 9, 3, 8, 2, 3), (58, .iload_n 1, 1, 0, 0, 0), (59, .iaload, 1, 0, 0, 0), (60, .aload_n 0, 1, 0, 0, 0), (61, .getfield 33, 3, 8, 1, 3)],
  [(64, .getfield 50, 3, 5, 1, 3), (67, .iload_n 2, 1, 0, 0, 0), (68, .iconst 1, 1, 0, 0, 0), (69, .iadd, 1, 0, 0, 0), (70, .aaload, 1, 0, 0, 0), (71, .iload_n 1, 1, 0, 0, 0), (72, .iaload, 1, 0, 0, 0), (73, .invokestatic 55, 3, 208, 2, 0), (76, .iastore, 1, 0, 0, 0), (77, .iinc 2 1, 3, 0, 0, 0)],
  [(80, .goto (-42), 3, 0, 0, 0), (83, .iinc 1 1, 3, 0, 0, 0), (86, .goto (-84), 3, 0, 0, 0), (89, .aload_n 0, 1, 0, 0, 0), (90, .aload_n 0, 1, 0, 0, 0), (91, .invokevirtual 61, 3, 20, 0, 0), (94, .putfield 64, 3, 8, 5, 0)],
  [(97, .iconst 0, 1, 0, 0, 0), (98, .istore_n 1, 1, 0, 0, 0), (99, .iload_n 1, 1, 0, 0, 0), (100, .aload_n 0, 1, 0, 0, 0), (101, .getfield 29, 3, 8, 0, 3), (104, .getfield 68, 3, 0, 14, 0), (107, .if_icmp .ge 35, 3, 0, 0, 0), (110, .aload_n 0, 1, 0, 0, 0), (111, .getfield 18, 3, 8, 4, 3)],
  [(114, .iload_n 1, 1, 0, 0, 0), (115, .aload_n 0, 1, 0, 0, 0), (116, .iload_n 1, 1, 0, 0, 0), (117, .invokevirtual 71, 3, 21, 1, 0), (120, .iastore, 1, 0, 0, 0), (121, .aload_n 0, 1, 0, 0, 0), (122, .getfield 15, 3, 8, 3, 3), (125, .aload_n 0, 1, 0, 0, 0), (126, .getfield 18, 3, 8, 4, 3)],
  [(129, .iload_n 1, 1, 0, 0, 0), (130, .iaload, 1, 0, 0, 0), (131, .dup2, 1, 0, 0, 0), (132, .iaload, 1, 0, 0, 0), (133, .iconst 1, 1, 0, 0, 0), (134, .isub, 1, 0, 0, 0), (135, .iastore, 1, 0, 0, 0), (136, .iinc 1 1, 3, 0, 0, 0), (139, .goto (-40), 3, 0, 0, 0), (142, .return_, 1, 0, 0, 0)]]
/-- Sharing.greatestLeast -/
def et_61 : List (List ex_I) := [[(0, .aload_n 0, 1, 0, 0, 0), (1, .getfield 29, 3, 8, 0, 3), (4, .getfield 68, 3, 0, 14, 0), (7, .ifCond .ne 7, 3, 0, 0, 0), (10, .sipush 1000, 3, 0, 0, 0), (13, .ireturn, 1, 0, 0, 0), (14, .ldc 75, 2, 0, 0, (-1000000))],
  [(16, .istore_n 1, 1, 0, 0, 0), (17, .iconst 0, 1, 0, 0, 0), (18, .istore_n 2, 1, 0, 0, 0), (19, .iload_n 2, 1, 0, 0, 0), (20, .aload_n 0, 1, 0, 0, 0), (21, .getfield 29, 3, 8, 0, 3), (24, .getfield 68, 3, 0, 14, 0), (27, .if_icmp .ge 65, 3, 0, 0, 0), (30, .iconst 0, 1, 0, 0, 0), (31, .istore_n 3, 1, 0, 0, 0)],
  [(32, .iload_n 3, 1, 0, 0, 0), (33, .aload_n 0, 1, 0, 0, 0), (34, .getfield 29, 3, 8, 0, 3), (37, .invokevirtual 37, 3, 3, 0, 0), (40, .if_icmp .ge 46, 3, 0, 0, 0), (43, .aload_n 0, 1, 0, 0, 0), (44, .getfield 9, 3, 8, 2, 3), (47, .iload_n 3, 1, 0, 0, 0)],
  [(48, .iaload, 1, 0, 0, 0), (49, .aload_n 0, 1, 0, 0, 0), (50, .getfield 33, 3, 8, 1, 3), (53, .getfield 76, 3, 5, 14, 3), (56, .iload_n 2, 1, 0, 0, 0), (57, .iaload, 1, 0, 0, 0), (58, .isub, 1, 0, 0, 0), (59, .istore 4, 2, 0, 0, 0), (61, .iload 4, 2, 0, 0, 0), (63, .iload_n 1, 1, 0, 0, 0)],
  [(64, .if_icmp .le 16, 3, 0, 0, 0), (67, .aload_n 0, 1, 0, 0, 0), (68, .iconst 0, 1, 0, 0, 0), (69, .iload 4, 2, 0, 0, 0), (71, .invokevirtual 79, 3, 22, 2, 0), (74, .ifCond .eq 6, 3, 0, 0, 0), (77, .iload 4, 2, 0, 0, 0), (79, .istore_n 1, 1, 0, 0, 0)],
  [(80, .iinc 3 1, 3, 0, 0, 0), (83, .goto (-51), 3, 0, 0, 0), (86, .iinc 2 1, 3, 0, 0, 0), (89, .goto (-70), 3, 0, 0, 0), (92, .iload_n 1, 1, 0, 0, 0), (93, .ireturn, 1, 0, 0, 0)]]
/-- Sharing.firstPlace -/
def et_62 : List (List ex_I) := [[(0, .iconst 0, 1, 0, 0, 0), (1, .istore_n 2, 1, 0, 0, 0), (2, .iload_n 2, 1, 0, 0, 0), (3, .aload_n 0, 1, 0, 0, 0), (4, .getfield 29, 3, 8, 0, 3), (7, .invokevirtual 37, 3, 3, 0, 0), (10, .if_icmp .ge 79, 3, 0, 0, 0), (13, .aload_n 0, 1, 0, 0, 0), (14, .getfield 15, 3, 8, 3, 3)],
  [(17, .iload_n 2, 1, 0, 0, 0), (18, .iaload, 1, 0, 0, 0), (19, .ifCond .le 64, 3, 0, 0, 0), (22, .aload_n 0, 1, 0, 0, 0), (23, .getfield 9, 3, 8, 2, 3), (26, .iload_n 2, 1, 0, 0, 0), (27, .iaload, 1, 0, 0, 0), (28, .aload_n 0, 1, 0, 0, 0), (29, .getfield 33, 3, 8, 1, 3)],
  [(32, .getfield 76, 3, 5, 14, 3), (35, .iload_n 1, 1, 0, 0, 0), (36, .iaload, 1, 0, 0, 0), (37, .isub, 1, 0, 0, 0), (38, .aload_n 0, 1, 0, 0, 0), (39, .getfield 64, 3, 8, 5, 0), (42, .if_icmp .lt 41, 3, 0, 0, 0), (45, .aload_n 0, 1, 0, 0, 0), (46, .getfield 15, 3, 8, 3, 3)],
  [(49, .iload_n 2, 1, 0, 0, 0), (50, .dup2, 1, 0, 0, 0), (51, .iaload, 1, 0, 0, 0), (52, .iconst 1, 1, 0, 0, 0), (53, .isub, 1, 0, 0, 0), (54, .iastore, 1, 0, 0, 0), (55, .aload_n 0, 1, 0, 0, 0), (56, .iload_n 1, 1, 0, 0, 0), (57, .iconst 1, 1, 0, 0, 0), (58, .iadd, 1, 0, 0, 0), (59, .aload_n 0, 1, 0, 0, 0), (60, .getfield 64, 3, 8, 5, 0), (63, .invokevirtual 79, 3, 22, 2, 0)],
  [(66, .istore_n 3, 1, 0, 0, 0), (67, .aload_n 0, 1, 0, 0, 0), (68, .getfield 15, 3, 8, 3, 3), (71, .iload_n 2, 1, 0, 0, 0), (72, .dup2, 1, 0, 0, 0), (73, .iaload, 1, 0, 0, 0), (74, .iconst 1, 1, 0, 0, 0), (75, .iadd, 1, 0, 0, 0), (76, .iastore, 1, 0, 0, 0), (77, .iload_n 3, 1, 0, 0, 0), (78, .ifCond .eq 5, 3, 0, 0, 0)],
  [(81, .iload_n 2, 1, 0, 0, 0), (82, .ireturn, 1, 0, 0, 0), (83, .iinc 2 1, 3, 0, 0, 0), (86, .goto (-84), 3, 0, 0, 0), (89, .iconst 0, 1, 0, 0, 0), (90, .ireturn, 1, 0, 0, 0)]]
/-- Sharing.allFit -/
def et_63 : List (List ex_I) := [[(0, .iload_n 1, 1, 0, 0, 0), (1, .istore_n 3, 1, 0, 0, 0), (2, .iload_n 3, 1, 0, 0, 0), (3, .aload_n 0, 1, 0, 0, 0), (4, .getfield 29, 3, 8, 0, 3), (7, .getfield 68, 3, 0, 14, 0), (10, .if_icmp .ge 78, 3, 0, 0, 0), (13, .iconst 0, 1, 0, 0, 0), (14, .istore 4, 2, 0, 0, 0)],
  [(16, .iload_n 1, 1, 0, 0, 0), (17, .istore 5, 2, 0, 0, 0), (19, .iload 5, 2, 0, 0, 0), (21, .aload_n 0, 1, 0, 0, 0), (22, .getfield 29, 3, 8, 0, 3), (25, .getfield 68, 3, 0, 14, 0), (28, .if_icmp .ge 41, 3, 0, 0, 0), (31, .iload 4, 2, 0, 0, 0)],
  [(33, .aload_n 0, 1, 0, 0, 0), (34, .getfield 33, 3, 8, 1, 3), (37, .getfield 76, 3, 5, 14, 3), (40, .iload 5, 2, 0, 0, 0), (42, .iaload, 1, 0, 0, 0), (43, .aload_n 0, 1, 0, 0, 0), (44, .getfield 33, 3, 8, 1, 3), (47, .getfield 76, 3, 5, 14, 3)],
  [(50, .iload_n 3, 1, 0, 0, 0), (51, .iaload, 1, 0, 0, 0), (52, .if_icmp .lt 7, 3, 0, 0, 0), (55, .iconst 1, 1, 0, 0, 0), (56, .goto 4, 3, 0, 0, 0), (59, .iconst 0, 1, 0, 0, 0), (60, .iadd, 1, 0, 0, 0), (61, .istore 4, 2, 0, 0, 0), (63, .iinc 5 1, 3, 0, 0, 0)],
  [(66, .goto (-47), 3, 0, 0, 0), (69, .iload 4, 2, 0, 0, 0), (71, .aload_n 0, 1, 0, 0, 0), (72, .iload_n 3, 1, 0, 0, 0), (73, .iload_n 2, 1, 0, 0, 0), (74, .invokevirtual 83, 3, 23, 2, 0), (77, .if_icmp .le 5, 3, 0, 0, 0)],
  [(80, .iconst 0, 1, 0, 0, 0), (81, .ireturn, 1, 0, 0, 0), (82, .iinc 3 1, 3, 0, 0, 0), (85, .goto (-83), 3, 0, 0, 0), (88, .iconst 1, 1, 0, 0, 0), (89, .ireturn, 1, 0, 0, 0)]]
/-- Sharing.seatsFor -/
def et_64 : List (List ex_I) := [[(0, .iconst 0, 1, 0, 0, 0), (1, .istore_n 3, 1, 0, 0, 0), (2, .iconst 0, 1, 0, 0, 0), (3, .istore 4, 2, 0, 0, 0), (5, .iload 4, 2, 0, 0, 0), (7, .aload_n 0, 1, 0, 0, 0), (8, .getfield 29, 3, 8, 0, 3), (11, .invokevirtual 37, 3, 3, 0, 0), (14, .if_icmp .ge 44, 3, 0, 0, 0)],
  [(17, .iload_n 3, 1, 0, 0, 0), (18, .aload_n 0, 1, 0, 0, 0), (19, .getfield 9, 3, 8, 2, 3), (22, .iload 4, 2, 0, 0, 0), (24, .iaload, 1, 0, 0, 0), (25, .aload_n 0, 1, 0, 0, 0), (26, .getfield 33, 3, 8, 1, 3), (29, .getfield 76, 3, 5, 14, 3)],
  [(32, .iload_n 1, 1, 0, 0, 0), (33, .iaload, 1, 0, 0, 0), (34, .isub, 1, 0, 0, 0), (35, .iload_n 2, 1, 0, 0, 0), (36, .if_icmp .lt 13, 3, 0, 0, 0), (39, .aload_n 0, 1, 0, 0, 0), (40, .getfield 15, 3, 8, 3, 3), (43, .iload 4, 2, 0, 0, 0), (45, .iaload, 1, 0, 0, 0), (46, .goto 4, 3, 0, 0, 0)],
  [(49, .iconst 0, 1, 0, 0, 0), (50, .iadd, 1, 0, 0, 0), (51, .istore_n 3, 1, 0, 0, 0), (52, .iinc 4 1, 3, 0, 0, 0), (55, .goto (-50), 3, 0, 0, 0), (58, .iload_n 3, 1, 0, 0, 0), (59, .ireturn, 1, 0, 0, 0)]]
/-- Sharing.weighCoats -/
def et_65 : List (List ex_I) := [[(0, .iconst 0, 1, 0, 0, 0), (1, .istore_n 3, 1, 0, 0, 0), (2, .iload_n 3, 1, 0, 0, 0), (3, .iconst 2, 1, 0, 0, 0), (4, .if_icmp .ge 93, 3, 0, 0, 0), (7, .aload_n 0, 1, 0, 0, 0), (8, .getfield 33, 3, 8, 1, 3), (11, .aload_n 1, 1, 0, 0, 0), (12, .iload_n 2, 1, 0, 0, 0), (13, .iload_n 3, 1, 0, 0, 0), (14, .ifCond .ne 7, 3, 0, 0, 0)],
  [(17, .iconst 0, 1, 0, 0, 0), (18, .goto 7, 3, 0, 0, 0), (21, .aload_n 0, 1, 0, 0, 0), (22, .invokevirtual 86, 3, 24, 0, 0), (25, .aload_n 0, 1, 0, 0, 0), (26, .getfield 29, 3, 8, 0, 3), (29, .getfield 89, 3, 0, 18, 0)],
  [(32, .invokevirtual 92, 3, 25, 4, 0), (35, .aload_n 0, 1, 0, 0, 0), (36, .getfield 33, 3, 8, 1, 3), (39, .getfield 96, 3, 5, 8, 3), (42, .aload_n 0, 1, 0, 0, 0), (43, .getfield 29, 3, 8, 0, 3), (46, .invokevirtual 47, 3, 4, 0, 0)],
  [(49, .aaload, 1, 0, 0, 0), (50, .iconst 0, 1, 0, 0, 0), (51, .aload_n 0, 1, 0, 0, 0), (52, .getfield 23, 3, 8, 6, 3), (55, .iload_n 3, 1, 0, 0, 0), (56, .aaload, 1, 0, 0, 0), (57, .iconst 0, 1, 0, 0, 0), (58, .bipush 8, 2, 0, 0, 0), (60, .invokestatic 97, 3, 0, 0, 1), (63, .aload_n 0, 1, 0, 0, 0)],
  [(64, .getfield 33, 3, 8, 1, 3), (67, .getfield 103, 3, 5, 7, 3), (70, .aload_n 0, 1, 0, 0, 0), (71, .getfield 29, 3, 8, 0, 3), (74, .invokevirtual 47, 3, 4, 0, 0), (77, .aaload, 1, 0, 0, 0), (78, .iconst 0, 1, 0, 0, 0), (79, .aload_n 0, 1, 0, 0, 0)],
  [(80, .getfield 26, 3, 8, 7, 3), (83, .iload_n 3, 1, 0, 0, 0), (84, .aaload, 1, 0, 0, 0), (85, .iconst 0, 1, 0, 0, 0), (86, .bipush 8, 2, 0, 0, 0), (88, .invokestatic 97, 3, 0, 0, 1), (91, .iinc 3 1, 3, 0, 0, 0), (94, .goto (-92), 3, 0, 0, 0)],
  [(97, .return_, 1, 0, 0, 0)]]
/-- Sharing.everybody -/
def et_66 : List (List ex_I) := [[(0, .iconst 1, 1, 0, 0, 0), (1, .aload_n 0, 1, 0, 0, 0), (2, .getfield 29, 3, 8, 0, 3), (5, .getfield 68, 3, 0, 14, 0), (8, .ishl, 1, 0, 0, 0), (9, .iconst 1, 1, 0, 0, 0), (10, .isub, 1, 0, 0, 0), (11, .ireturn, 1, 0, 0, 0)]]
/-- Sharing.bestCoats -/
def et_67 : List (List ex_I) := [[(0, .iconst 0, 1, 0, 0, 0), (1, .istore_n 2, 1, 0, 0, 0), (2, .iconst (-1), 1, 0, 0, 0), (3, .istore_n 3, 1, 0, 0, 0), (4, .iconst 0, 1, 0, 0, 0), (5, .istore 4, 2, 0, 0, 0), (7, .iconst 0, 1, 0, 0, 0), (8, .istore 5, 2, 0, 0, 0), (10, .iload 5, 2, 0, 0, 0), (12, .aload_n 0, 1, 0, 0, 0), (13, .invokevirtual 86, 3, 24, 0, 0)],
  [(16, .if_icmp .gt 71, 3, 0, 0, 0), (19, .iload 5, 2, 0, 0, 0), (21, .invokestatic 104, 3, 204, 1, 0), (24, .iload_n 1, 1, 0, 0, 0), (25, .if_icmp .ne 56, 3, 0, 0, 0), (28, .aload_n 0, 1, 0, 0, 0), (29, .aload_n 0, 1, 0, 0, 0), (30, .getfield 23, 3, 8, 6, 3)],
  [(33, .iload 5, 2, 0, 0, 0), (35, .invokevirtual 109, 3, 26, 2, 0), (38, .istore 6, 2, 0, 0, 0), (40, .aload_n 0, 1, 0, 0, 0), (41, .aload_n 0, 1, 0, 0, 0), (42, .getfield 26, 3, 8, 7, 3), (45, .iload 5, 2, 0, 0, 0), (47, .invokevirtual 109, 3, 26, 2, 0)],
  [(50, .istore 7, 2, 0, 0, 0), (52, .iload 6, 2, 0, 0, 0), (54, .iload_n 3, 1, 0, 0, 0), (55, .if_icmp .gt 16, 3, 0, 0, 0), (58, .iload 6, 2, 0, 0, 0), (60, .iload_n 3, 1, 0, 0, 0), (61, .if_icmp .ne 20, 3, 0, 0, 0)],
  [(64, .iload 7, 2, 0, 0, 0), (66, .iload 4, 2, 0, 0, 0), (68, .if_icmp .le 13, 3, 0, 0, 0), (71, .iload 5, 2, 0, 0, 0), (73, .istore_n 2, 1, 0, 0, 0), (74, .iload 6, 2, 0, 0, 0), (76, .istore_n 3, 1, 0, 0, 0), (77, .iload 7, 2, 0, 0, 0), (79, .istore 4, 2, 0, 0, 0)],
  [(81, .iinc 5 1, 3, 0, 0, 0), (84, .goto (-74), 3, 0, 0, 0), (87, .iload_n 2, 1, 0, 0, 0), (88, .ireturn, 1, 0, 0, 0)]]
/-- Sharing.fewestCoats -/
def et_68 : List (List ex_I) := [[(0, .iconst (-1), 1, 0, 0, 0), (1, .istore_n 1, 1, 0, 0, 0), (2, .iconst 0, 1, 0, 0, 0), (3, .istore_n 2, 1, 0, 0, 0), (4, .iload_n 2, 1, 0, 0, 0), (5, .aload_n 0, 1, 0, 0, 0), (6, .invokevirtual 86, 3, 24, 0, 0), (9, .if_icmp .gt 40, 3, 0, 0, 0), (12, .iload_n 2, 1, 0, 0, 0), (13, .invokestatic 104, 3, 204, 1, 0)],
  [(16, .istore_n 3, 1, 0, 0, 0), (17, .iload_n 1, 1, 0, 0, 0), (18, .iconst (-1), 1, 0, 0, 0), (19, .if_icmp .eq 8, 3, 0, 0, 0), (22, .iload_n 3, 1, 0, 0, 0), (23, .iload_n 1, 1, 0, 0, 0), (24, .if_icmp .ge 19, 3, 0, 0, 0), (27, .aload_n 0, 1, 0, 0, 0), (28, .aload_n 0, 1, 0, 0, 0), (29, .getfield 23, 3, 8, 6, 3)],
  [(32, .iload_n 2, 1, 0, 0, 0), (33, .invokevirtual 109, 3, 26, 2, 0), (36, .bipush 24, 2, 0, 0, 0), (38, .if_icmp .lt 5, 3, 0, 0, 0), (41, .iload_n 3, 1, 0, 0, 0), (42, .istore_n 1, 1, 0, 0, 0), (43, .iinc 2 1, 3, 0, 0, 0), (46, .goto (-42), 3, 0, 0, 0)],
  [(49, .iload_n 1, 1, 0, 0, 0), (50, .ireturn, 1, 0, 0, 0)]]
/-- Sharing.leastOf -/
def et_69 : List (List ex_I) := [[(0, .ldc 46, 2, 0, 0, 1000000), (2, .istore_n 3, 1, 0, 0, 0), (3, .iconst 0, 1, 0, 0, 0), (4, .istore 4, 2, 0, 0, 0), (6, .iload 4, 2, 0, 0, 0), (8, .aload_n 0, 1, 0, 0, 0), (9, .getfield 29, 3, 8, 0, 3), (12, .getfield 68, 3, 0, 14, 0), (15, .if_icmp .ge 25, 3, 0, 0, 0)],
  [(18, .iload_n 3, 1, 0, 0, 0), (19, .aload_n 1, 1, 0, 0, 0), (20, .iload_n 2, 1, 0, 0, 0), (21, .iload 4, 2, 0, 0, 0), (23, .ishr, 1, 0, 0, 0), (24, .iconst 1, 1, 0, 0, 0), (25, .iand, 1, 0, 0, 0), (26, .aaload, 1, 0, 0, 0), (27, .iload 4, 2, 0, 0, 0), (29, .iaload, 1, 0, 0, 0), (30, .invokestatic 55, 3, 208, 2, 0)],
  [(33, .istore_n 3, 1, 0, 0, 0), (34, .iinc 4 1, 3, 0, 0, 0), (37, .goto (-31), 3, 0, 0, 0), (40, .iload_n 3, 1, 0, 0, 0), (41, .ireturn, 1, 0, 0, 0)]]
/-- Text.<init> -/
def et_70 : List (List ex_I) := [[(0, .aload_n 0, 1, 0, 0, 0), (1, .invokespecial 3, 3, 0, 0, 1), (4, .aload_n 0, 1, 0, 0, 0), (5, .sipush 300, 3, 0, 0, 0), (8, .newarray .int, 2, 0, 0, 0), (10, .putfield 9, 3, 9, 0, 3), (13, .aload_n 0, 1, 0, 0, 0), (14, .bipush 50, 2, 0, 0, 0)],
  [(16, .newarray .int, 2, 0, 0, 0), (18, .putfield 15, 3, 9, 2, 3), (21, .aload_n 0, 1, 0, 0, 0), (22, .bipush 50, 2, 0, 0, 0), (24, .iconst 5, 1, 0, 0, 0), (25, .multianewarray 18 2, 4, 0, 0, 0), (29, .putfield 20, 3, 9, 3, 3)],
  [(32, .return_, 1, 0, 0, 0)]]
/-- Text.add -/
def et_71 : List (List ex_I) := [[(0, .iload_n 3, 1, 0, 0, 0), (1, .iconst 1, 1, 0, 0, 0), (2, .bipush 8, 2, 0, 0, 0), (4, .invokestatic 23, 3, 119, 3, 0), (7, .ifCond .ne 6, 3, 0, 0, 0), (10, .ldc 27, 2, 0, 0, (-100000)), (12, .ireturn, 1, 0, 0, 0), (13, .aload_n 0, 1, 0, 0, 0), (14, .getfield 28, 3, 9, 1, 0)],
  [(17, .iload_n 3, 1, 0, 0, 0), (18, .iadd, 1, 0, 0, 0), (19, .sipush 300, 3, 0, 0, 0), (22, .if_icmp .le 6, 3, 0, 0, 0), (25, .ldc 32, 2, 0, 0, (-300000)), (27, .ireturn, 1, 0, 0, 0), (28, .iload_n 3, 1, 0, 0, 0), (29, .iconst 1, 1, 0, 0, 0), (30, .isub, 1, 0, 0, 0), (31, .istore 4, 2, 0, 0, 0)],
  [(33, .iload 4, 2, 0, 0, 0), (35, .ifCond .lt 37, 3, 0, 0, 0), (38, .aload_n 0, 1, 0, 0, 0), (39, .getfield 9, 3, 9, 0, 3), (42, .aload_n 0, 1, 0, 0, 0), (43, .dup, 1, 0, 0, 0), (44, .getfield 28, 3, 9, 1, 0), (47, .dup_x1, 1, 0, 0, 0)],
  [(48, .iconst 1, 1, 0, 0, 0), (49, .iadd, 1, 0, 0, 0), (50, .putfield 28, 3, 9, 1, 0), (53, .lload_n 1, 1, 0, 0, 0), (54, .bipush 8, 2, 0, 0, 0), (56, .iload 4, 2, 0, 0, 0), (58, .imul, 1, 0, 0, 0), (59, .lushr, 1, 0, 0, 0), (60, .ldc2_w 33, 3, 0, 0, 255), (63, .land, 1, 0, 0, 0)],
  [(64, .l2i, 1, 0, 0, 0), (65, .iastore, 1, 0, 0, 0), (66, .iinc 4 (-1), 3, 0, 0, 0), (69, .goto (-36), 3, 0, 0, 0), (72, .aload_n 0, 1, 0, 0, 0), (73, .getfield 28, 3, 9, 1, 0), (76, .ireturn, 1, 0, 0, 0)]]
/-- Text.empty -/
def et_72 : List (List ex_I) := [[(0, .aload_n 0, 1, 0, 0, 0), (1, .getfield 28, 3, 9, 1, 0), (4, .istore_n 1, 1, 0, 0, 0), (5, .aload_n 0, 1, 0, 0, 0), (6, .iconst 0, 1, 0, 0, 0), (7, .putfield 28, 3, 9, 1, 0), (10, .iload_n 1, 1, 0, 0, 0), (11, .ireturn, 1, 0, 0, 0)]]
/-- Text.findFault -/
def et_73 : List (List ex_I) := [[(0, .aload_n 0, 1, 0, 0, 0), (1, .iconst 0, 1, 0, 0, 0), (2, .putfield 35, 3, 9, 5, 0), (5, .aload_n 0, 1, 0, 0, 0), (6, .invokevirtual 38, 3, 27, 0, 0), (9, .aload_n 0, 1, 0, 0, 0), (10, .iconst 0, 1, 0, 0, 0), (11, .putfield 41, 3, 9, 4, 0), (14, .aload_n 0, 1, 0, 0, 0), (15, .getfield 41, 3, 9, 4, 0)],
  [(18, .bipush 50, 2, 0, 0, 0), (20, .if_icmp .ge 47, 3, 0, 0, 0), (23, .aload_n 0, 1, 0, 0, 0), (24, .getfield 35, 3, 9, 5, 0), (27, .aload_n 0, 1, 0, 0, 0), (28, .getfield 28, 3, 9, 1, 0), (31, .if_icmp .ge 36, 3, 0, 0, 0)],
  [(34, .aload_n 0, 1, 0, 0, 0), (35, .aload_n 0, 1, 0, 0, 0), (36, .getfield 41, 3, 9, 4, 0), (39, .invokevirtual 44, 3, 28, 1, 0), (42, .ifCond .ne 8, 3, 0, 0, 0), (45, .aload_n 0, 1, 0, 0, 0), (46, .getfield 35, 3, 9, 5, 0)],
  [(49, .ireturn, 1, 0, 0, 0), (50, .aload_n 0, 1, 0, 0, 0), (51, .invokevirtual 38, 3, 27, 0, 0), (54, .aload_n 0, 1, 0, 0, 0), (55, .dup, 1, 0, 0, 0), (56, .getfield 41, 3, 9, 4, 0), (59, .iconst 1, 1, 0, 0, 0), (60, .iadd, 1, 0, 0, 0), (61, .putfield 41, 3, 9, 4, 0)],
  [(64, .goto (-50), 3, 0, 0, 0), (67, .aload_n 0, 1, 0, 0, 0), (68, .getfield 35, 3, 9, 5, 0), (71, .aload_n 0, 1, 0, 0, 0), (72, .getfield 28, 3, 9, 1, 0), (75, .if_icmp .ge 10, 3, 0, 0, 0), (78, .aload_n 0, 1, 0, 0, 0), (79, .getfield 35, 3, 9, 5, 0)],
  [(82, .goto 4, 3, 0, 0, 0), (85, .iconst (-1), 1, 0, 0, 0), (86, .ireturn, 1, 0, 0, 0)]]
/-- Text.readItem -/
def et_74 : List (List ex_I) := [[(0, .aload_n 0, 1, 0, 0, 0), (1, .invokevirtual 48, 3, 29, 0, 0), (4, .istore_n 2, 1, 0, 0, 0), (5, .iload_n 2, 1, 0, 0, 0), (6, .iconst (-1), 1, 0, 0, 0), (7, .if_icmp .ne 5, 3, 0, 0, 0), (10, .iconst 0, 1, 0, 0, 0), (11, .ireturn, 1, 0, 0, 0), (12, .aload_n 0, 1, 0, 0, 0), (13, .getfield 15, 3, 9, 2, 3)],
  [(16, .iload_n 1, 1, 0, 0, 0), (17, .iload_n 2, 1, 0, 0, 0), (18, .iastore, 1, 0, 0, 0), (19, .iconst 0, 1, 0, 0, 0), (20, .istore_n 3, 1, 0, 0, 0), (21, .iload_n 3, 1, 0, 0, 0), (22, .getstatic 52, 3, 3, 0, 0), (25, .iload_n 2, 1, 0, 0, 0), (26, .iaload, 1, 0, 0, 0), (27, .if_icmp .ge 24, 3, 0, 0, 0), (30, .aload_n 0, 1, 0, 0, 0), (31, .invokevirtual 38, 3, 27, 0, 0)],
  [(34, .aload_n 0, 1, 0, 0, 0), (35, .iload_n 1, 1, 0, 0, 0), (36, .iload_n 3, 1, 0, 0, 0), (37, .invokevirtual 55, 3, 30, 2, 0), (40, .ifCond .ne 5, 3, 0, 0, 0), (43, .iconst 0, 1, 0, 0, 0), (44, .ireturn, 1, 0, 0, 0), (45, .iinc 3 1, 3, 0, 0, 0)],
  [(48, .goto (-27), 3, 0, 0, 0), (51, .aload_n 0, 1, 0, 0, 0), (52, .invokevirtual 38, 3, 27, 0, 0), (55, .aload_n 0, 1, 0, 0, 0), (56, .aload_n 0, 1, 0, 0, 0), (57, .getfield 35, 3, 9, 5, 0), (60, .invokevirtual 59, 3, 31, 1, 0), (63, .bipush 59, 2, 0, 0, 0)],
  [(65, .if_icmp .eq 5, 3, 0, 0, 0), (68, .iconst 0, 1, 0, 0, 0), (69, .ireturn, 1, 0, 0, 0), (70, .aload_n 0, 1, 0, 0, 0), (71, .dup, 1, 0, 0, 0), (72, .getfield 35, 3, 9, 5, 0), (75, .iconst 1, 1, 0, 0, 0), (76, .iadd, 1, 0, 0, 0), (77, .putfield 35, 3, 9, 5, 0)],
  [(80, .iconst 1, 1, 0, 0, 0), (81, .ireturn, 1, 0, 0, 0)]]
/-- Text.readWord -/
def et_75 : List (List ex_I) := [[(0, .aload_n 0, 1, 0, 0, 0), (1, .getfield 35, 3, 9, 5, 0), (4, .istore_n 1, 1, 0, 0, 0), (5, .iload_n 1, 1, 0, 0, 0), (6, .aload_n 0, 1, 0, 0, 0), (7, .getfield 28, 3, 9, 1, 0), (10, .if_icmp .ge 25, 3, 0, 0, 0), (13, .aload_n 0, 1, 0, 0, 0), (14, .getfield 9, 3, 9, 0, 3)],
  [(17, .iload_n 1, 1, 0, 0, 0), (18, .iaload, 1, 0, 0, 0), (19, .bipush 97, 2, 0, 0, 0), (21, .bipush 122, 2, 0, 0, 0), (23, .invokestatic 23, 3, 119, 3, 0), (26, .ifCond .eq 9, 3, 0, 0, 0), (29, .iinc 1 1, 3, 0, 0, 0)],
  [(32, .goto (-27), 3, 0, 0, 0), (35, .iconst 0, 1, 0, 0, 0), (36, .istore_n 2, 1, 0, 0, 0), (37, .iload_n 2, 1, 0, 0, 0), (38, .bipush 10, 2, 0, 0, 0), (40, .if_icmp .ge 30, 3, 0, 0, 0), (43, .aload_n 0, 1, 0, 0, 0), (44, .iload_n 2, 1, 0, 0, 0), (45, .iload_n 1, 1, 0, 0, 0), (46, .aload_n 0, 1, 0, 0, 0), (47, .getfield 35, 3, 9, 5, 0)],
  [(50, .isub, 1, 0, 0, 0), (51, .invokevirtual 63, 3, 32, 2, 0), (54, .ifCond .eq 10, 3, 0, 0, 0), (57, .aload_n 0, 1, 0, 0, 0), (58, .iload_n 1, 1, 0, 0, 0), (59, .putfield 35, 3, 9, 5, 0), (62, .iload_n 2, 1, 0, 0, 0), (63, .ireturn, 1, 0, 0, 0)],
  [(64, .iinc 2 1, 3, 0, 0, 0), (67, .goto (-30), 3, 0, 0, 0), (70, .iconst (-1), 1, 0, 0, 0), (71, .ireturn, 1, 0, 0, 0)]]
/-- Text.isWord -/
def et_76 : List (List ex_I) := [[(0, .iload_n 2, 1, 0, 0, 0), (1, .iconst 1, 1, 0, 0, 0), (2, .iconst 5, 1, 0, 0, 0), (3, .invokestatic 23, 3, 119, 3, 0), (6, .ifCond .ne 5, 3, 0, 0, 0), (9, .iconst 0, 1, 0, 0, 0), (10, .ireturn, 1, 0, 0, 0), (11, .iconst 0, 1, 0, 0, 0), (12, .istore_n 3, 1, 0, 0, 0), (13, .iload_n 3, 1, 0, 0, 0), (14, .iconst 5, 1, 0, 0, 0), (15, .if_icmp .ge 48, 3, 0, 0, 0)],
  [(18, .iload_n 3, 1, 0, 0, 0), (19, .iload_n 2, 1, 0, 0, 0), (20, .if_icmp .ge 16, 3, 0, 0, 0), (23, .aload_n 0, 1, 0, 0, 0), (24, .aload_n 0, 1, 0, 0, 0), (25, .getfield 35, 3, 9, 5, 0), (28, .iload_n 3, 1, 0, 0, 0), (29, .iadd, 1, 0, 0, 0), (30, .invokevirtual 59, 3, 31, 1, 0)],
  [(33, .goto 5, 3, 0, 0, 0), (36, .bipush 32, 2, 0, 0, 0), (38, .istore 4, 2, 0, 0, 0), (40, .ldc 66, 2, 0, 0, 0), (42, .iload_n 1, 1, 0, 0, 0), (43, .iconst 5, 1, 0, 0, 0), (44, .imul, 1, 0, 0, 0), (45, .iload_n 3, 1, 0, 0, 0), (46, .iadd, 1, 0, 0, 0), (47, .invokevirtual 68, 3, 9999, 1, 0)],
  [(50, .iload 4, 2, 0, 0, 0), (52, .if_icmp .eq 5, 3, 0, 0, 0), (55, .iconst 0, 1, 0, 0, 0), (56, .ireturn, 1, 0, 0, 0), (57, .iinc 3 1, 3, 0, 0, 0), (60, .goto (-47), 3, 0, 0, 0), (63, .iconst 1, 1, 0, 0, 0)],
  [(64, .ireturn, 1, 0, 0, 0)]]
/-- Text.readNumber -/
def et_77 : List (List ex_I) := [[(0, .aload_n 0, 1, 0, 0, 0), (1, .aload_n 0, 1, 0, 0, 0), (2, .getfield 35, 3, 9, 5, 0), (5, .iconst 1, 1, 0, 0, 0), (6, .isub, 1, 0, 0, 0), (7, .invokevirtual 74, 3, 33, 1, 0), (10, .ifCond .eq 5, 3, 0, 0, 0), (13, .iconst 0, 1, 0, 0, 0), (14, .ireturn, 1, 0, 0, 0), (15, .aload_n 0, 1, 0, 0, 0)],
  [(16, .aload_n 0, 1, 0, 0, 0), (17, .getfield 35, 3, 9, 5, 0), (20, .invokevirtual 59, 3, 31, 1, 0), (23, .bipush 45, 2, 0, 0, 0), (25, .if_icmp .ne 7, 3, 0, 0, 0), (28, .iconst 1, 1, 0, 0, 0), (29, .goto 4, 3, 0, 0, 0)],
  [(32, .iconst 0, 1, 0, 0, 0), (33, .istore_n 3, 1, 0, 0, 0), (34, .iload_n 3, 1, 0, 0, 0), (35, .ifCond .eq 12, 3, 0, 0, 0), (38, .aload_n 0, 1, 0, 0, 0), (39, .getfield 35, 3, 9, 5, 0), (42, .iconst 1, 1, 0, 0, 0), (43, .iadd, 1, 0, 0, 0), (44, .goto 7, 3, 0, 0, 0), (47, .aload_n 0, 1, 0, 0, 0)],
  [(48, .getfield 35, 3, 9, 5, 0), (51, .istore 4, 2, 0, 0, 0), (53, .iload 4, 2, 0, 0, 0), (55, .istore 5, 2, 0, 0, 0), (57, .iconst 0, 1, 0, 0, 0), (58, .istore 6, 2, 0, 0, 0), (60, .iload 5, 2, 0, 0, 0), (62, .iload 4, 2, 0, 0, 0)],
  [(64, .isub, 1, 0, 0, 0), (65, .iconst 3, 1, 0, 0, 0), (66, .if_icmp .gt 35, 3, 0, 0, 0), (69, .aload_n 0, 1, 0, 0, 0), (70, .iload 5, 2, 0, 0, 0), (72, .invokevirtual 74, 3, 33, 1, 0), (75, .ifCond .eq 26, 3, 0, 0, 0), (78, .bipush 10, 2, 0, 0, 0)],
  [(80, .iload 6, 2, 0, 0, 0), (82, .imul, 1, 0, 0, 0), (83, .aload_n 0, 1, 0, 0, 0), (84, .iload 5, 2, 0, 0, 0), (86, .invokevirtual 59, 3, 31, 1, 0), (89, .iadd, 1, 0, 0, 0), (90, .bipush 48, 2, 0, 0, 0), (92, .isub, 1, 0, 0, 0), (93, .istore 6, 2, 0, 0, 0), (95, .iinc 5 1, 3, 0, 0, 0)],
  [(98, .goto (-38), 3, 0, 0, 0), (101, .iload 5, 2, 0, 0, 0), (103, .iload 4, 2, 0, 0, 0), (105, .isub, 1, 0, 0, 0), (106, .iconst 1, 1, 0, 0, 0), (107, .iconst 3, 1, 0, 0, 0), (108, .invokestatic 23, 3, 119, 3, 0), (111, .ifCond .ne 5, 3, 0, 0, 0)],
  [(114, .iconst 0, 1, 0, 0, 0), (115, .ireturn, 1, 0, 0, 0), (116, .aload_n 0, 1, 0, 0, 0), (117, .getfield 20, 3, 9, 3, 3), (120, .iload_n 1, 1, 0, 0, 0), (121, .aaload, 1, 0, 0, 0), (122, .iload_n 2, 1, 0, 0, 0), (123, .iload_n 3, 1, 0, 0, 0), (124, .ifCond .eq 9, 3, 0, 0, 0), (127, .iload 6, 2, 0, 0, 0)],
  [(129, .ineg, 1, 0, 0, 0), (130, .goto 5, 3, 0, 0, 0), (133, .iload 6, 2, 0, 0, 0), (135, .iastore, 1, 0, 0, 0), (136, .aload_n 0, 1, 0, 0, 0), (137, .iload 5, 2, 0, 0, 0), (139, .putfield 35, 3, 9, 5, 0), (142, .iconst 1, 1, 0, 0, 0), (143, .ireturn, 1, 0, 0, 0)]]
/-- Text.skipBlanks -/
def et_78 : List (List ex_I) := [[(0, .aload_n 0, 1, 0, 0, 0), (1, .getfield 35, 3, 9, 5, 0), (4, .aload_n 0, 1, 0, 0, 0), (5, .getfield 28, 3, 9, 1, 0), (8, .if_icmp .ge 30, 3, 0, 0, 0), (11, .aload_n 0, 1, 0, 0, 0), (12, .getfield 9, 3, 9, 0, 3), (15, .aload_n 0, 1, 0, 0, 0)],
  [(16, .getfield 35, 3, 9, 5, 0), (19, .iaload, 1, 0, 0, 0), (20, .bipush 32, 2, 0, 0, 0), (22, .if_icmp .ne 16, 3, 0, 0, 0), (25, .aload_n 0, 1, 0, 0, 0), (26, .dup, 1, 0, 0, 0), (27, .getfield 35, 3, 9, 5, 0), (30, .iconst 1, 1, 0, 0, 0), (31, .iadd, 1, 0, 0, 0)],
  [(32, .putfield 35, 3, 9, 5, 0), (35, .goto (-35), 3, 0, 0, 0), (38, .return_, 1, 0, 0, 0)]]
/-- Text.isFigure -/
def et_79 : List (List ex_I) := [[(0, .aload_n 0, 1, 0, 0, 0), (1, .iload_n 1, 1, 0, 0, 0), (2, .invokevirtual 59, 3, 31, 1, 0), (5, .bipush 48, 2, 0, 0, 0), (7, .bipush 57, 2, 0, 0, 0), (9, .invokestatic 23, 3, 119, 3, 0), (12, .ireturn, 1, 0, 0, 0)]]
/-- Text.byteAt -/
def et_80 : List (List ex_I) := [[(0, .iload_n 1, 1, 0, 0, 0), (1, .iconst 0, 1, 0, 0, 0), (2, .aload_n 0, 1, 0, 0, 0), (3, .getfield 28, 3, 9, 1, 0), (6, .iconst 1, 1, 0, 0, 0), (7, .isub, 1, 0, 0, 0), (8, .invokestatic 23, 3, 119, 3, 0), (11, .ifCond .eq 12, 3, 0, 0, 0), (14, .aload_n 0, 1, 0, 0, 0), (15, .getfield 9, 3, 9, 0, 3)],
  [(18, .iload_n 1, 1, 0, 0, 0), (19, .iaload, 1, 0, 0, 0), (20, .goto 4, 3, 0, 0, 0), (23, .iconst (-1), 1, 0, 0, 0), (24, .ireturn, 1, 0, 0, 0)]]
/-- Text.tellItem -/
def et_81 : List (List ex_I) := [[(0, .iload_n 1, 1, 0, 0, 0), (1, .iconst 0, 1, 0, 0, 0), (2, .bipush 49, 2, 0, 0, 0), (4, .invokestatic 23, 3, 119, 3, 0), (7, .ifCond .ne 6, 3, 0, 0, 0), (10, .ldc 27, 2, 0, 0, (-100000)), (12, .ireturn, 1, 0, 0, 0), (13, .aload_n 0, 1, 0, 0, 0), (14, .getfield 20, 3, 9, 3, 3)],
  [(17, .iload_n 1, 1, 0, 0, 0), (18, .aaload, 1, 0, 0, 0), (19, .astore_n 3, 1, 0, 0, 0), (20, .aload_n 0, 1, 0, 0, 0), (21, .getfield 15, 3, 9, 2, 3), (24, .iload_n 1, 1, 0, 0, 0), (25, .iaload, 1, 0, 0, 0), (26, .tableswitch 179 0 9 #[54, 65, 82, 93, 102, 116, 127, 147, 156, 170], 54, 0, 0, 0)],
  [],
  [],
  [],
  [(80, .aload_n 2, 1, 0, 0, 0), (81, .aload_n 3, 1, 0, 0, 0), (82, .iconst 0, 1, 0, 0, 0), (83, .iaload, 1, 0, 0, 0), (84, .aload_n 3, 1, 0, 0, 0), (85, .iconst 1, 1, 0, 0, 0), (86, .iaload, 1, 0, 0, 0), (87, .invokevirtual 77, 3, 34, 2, 0), (90, .ireturn, 1, 0, 0, 0), (91, .aload_n 2, 1, 0, 0, 0), (92, .aload_n 3, 1, 0, 0, 0), (93, .iconst 0, 1, 0, 0, 0), (94, .iaload, 1, 0, 0, 0), (95, .aload_n 3, 1, 0, 0, 0)],
  [(96, .iconst 1, 1, 0, 0, 0), (97, .iaload, 1, 0, 0, 0), (98, .aload_n 3, 1, 0, 0, 0), (99, .iconst 2, 1, 0, 0, 0), (100, .iaload, 1, 0, 0, 0), (101, .aload_n 3, 1, 0, 0, 0), (102, .iconst 3, 1, 0, 0, 0), (103, .iaload, 1, 0, 0, 0), (104, .invokevirtual 83, 3, 35, 4, 0), (107, .ireturn, 1, 0, 0, 0), (108, .aload_n 2, 1, 0, 0, 0), (109, .aload_n 3, 1, 0, 0, 0), (110, .iconst 0, 1, 0, 0, 0), (111, .iaload, 1, 0, 0, 0)],
  [(112, .aload_n 3, 1, 0, 0, 0), (113, .iconst 1, 1, 0, 0, 0), (114, .iaload, 1, 0, 0, 0), (115, .invokevirtual 87, 3, 36, 2, 0), (118, .ireturn, 1, 0, 0, 0), (119, .aload_n 2, 1, 0, 0, 0), (120, .aload_n 3, 1, 0, 0, 0), (121, .iconst 0, 1, 0, 0, 0), (122, .iaload, 1, 0, 0, 0), (123, .iconst 1, 1, 0, 0, 0), (124, .invokevirtual 90, 3, 37, 2, 0), (127, .ireturn, 1, 0, 0, 0)],
  [(128, .aload_n 2, 1, 0, 0, 0), (129, .aload_n 3, 1, 0, 0, 0), (130, .iconst 0, 1, 0, 0, 0), (131, .iaload, 1, 0, 0, 0), (132, .aload_n 3, 1, 0, 0, 0), (133, .iconst 1, 1, 0, 0, 0), (134, .iaload, 1, 0, 0, 0), (135, .aload_n 3, 1, 0, 0, 0), (136, .iconst 2, 1, 0, 0, 0), (137, .iaload, 1, 0, 0, 0), (138, .invokevirtual 94, 3, 38, 3, 0), (141, .ireturn, 1, 0, 0, 0), (142, .aload_n 2, 1, 0, 0, 0), (143, .aload_n 3, 1, 0, 0, 0)],
  [(144, .iconst 0, 1, 0, 0, 0), (145, .iaload, 1, 0, 0, 0), (146, .aload_n 3, 1, 0, 0, 0), (147, .iconst 1, 1, 0, 0, 0), (148, .iaload, 1, 0, 0, 0), (149, .invokevirtual 98, 3, 39, 2, 0), (152, .ireturn, 1, 0, 0, 0), (153, .aload_n 2, 1, 0, 0, 0), (154, .aload_n 3, 1, 0, 0, 0), (155, .iconst 0, 1, 0, 0, 0), (156, .iaload, 1, 0, 0, 0), (157, .aload_n 3, 1, 0, 0, 0), (158, .iconst 1, 1, 0, 0, 0), (159, .iaload, 1, 0, 0, 0)],
  [(160, .aload_n 3, 1, 0, 0, 0), (161, .iconst 2, 1, 0, 0, 0), (162, .iaload, 1, 0, 0, 0), (163, .aload_n 3, 1, 0, 0, 0), (164, .iconst 3, 1, 0, 0, 0), (165, .iaload, 1, 0, 0, 0), (166, .aload_n 3, 1, 0, 0, 0), (167, .iconst 4, 1, 0, 0, 0), (168, .iaload, 1, 0, 0, 0), (169, .invokevirtual 101, 3, 40, 5, 0), (172, .ireturn, 1, 0, 0, 0), (173, .aload_n 2, 1, 0, 0, 0), (174, .aload_n 3, 1, 0, 0, 0), (175, .iconst 0, 1, 0, 0, 0)],
  [(176, .iaload, 1, 0, 0, 0), (177, .iconst 1, 1, 0, 0, 0), (178, .invokevirtual 105, 3, 41, 2, 0), (181, .ireturn, 1, 0, 0, 0), (182, .aload_n 2, 1, 0, 0, 0), (183, .aload_n 3, 1, 0, 0, 0), (184, .iconst 0, 1, 0, 0, 0), (185, .iaload, 1, 0, 0, 0), (186, .aload_n 3, 1, 0, 0, 0), (187, .iconst 1, 1, 0, 0, 0), (188, .iaload, 1, 0, 0, 0), (189, .aload_n 3, 1, 0, 0, 0), (190, .iconst 2, 1, 0, 0, 0), (191, .iaload, 1, 0, 0, 0)],
  [(192, .invokevirtual 108, 3, 42, 3, 0), (195, .ireturn, 1, 0, 0, 0), (196, .aload_n 2, 1, 0, 0, 0), (197, .aload_n 3, 1, 0, 0, 0), (198, .iconst 0, 1, 0, 0, 0), (199, .iaload, 1, 0, 0, 0), (200, .iconst 1, 1, 0, 0, 0), (201, .invokevirtual 111, 3, 43, 2, 0), (204, .ireturn, 1, 0, 0, 0), (205, .ldc 27, 2, 0, 0, (-100000)), (207, .ireturn, 1, 0, 0, 0)]]
/-- Turn.<init> -/
def et_82 : List (List ex_I) := [[(0, .aload_n 0, 1, 0, 0, 0), (1, .invokespecial 1, 3, 30, 0, 0), (4, .return_, 1, 0, 0, 0)]]
/-- Turn.seat -/
def et_83 : List (List ex_I) := [[(0, .iload_n 2, 1, 0, 0, 0), (1, .iload_n 3, 1, 0, 0, 0), (2, .iadd, 1, 0, 0, 0), (3, .iconst 1, 1, 0, 0, 0), (4, .aload_n 1, 1, 0, 0, 0), (5, .invokevirtual 7, 3, 3, 0, 0), (8, .invokestatic 13, 3, 207, 2, 0), (11, .invokestatic 19, 3, 205, 2, 0), (14, .ireturn, 1, 0, 0, 0)]]
/-- WarmNight.<init> -/
def et_84 : List (List ex_I) := [[(0, .aload_n 0, 1, 0, 0, 0), (1, .invokespecial 3, 3, 0, 0, 1), (4, .aload_n 0, 1, 0, 0, 0), (5, .new 9, 3, 0, 0, 0), (8, .dup, 1, 0, 0, 0), (9, .invokespecial 11, 3, 0, 0, 0), (12, .putfield 12, 3, 11, 0, 3), (15, .aload_n 0, 1, 0, 0, 0)],
  [(16, .new 9, 3, 0, 0, 0), (19, .dup, 1, 0, 0, 0), (20, .invokespecial 11, 3, 0, 0, 0), (23, .putfield 16, 3, 11, 1, 3), (26, .aload_n 0, 1, 0, 0, 0), (27, .iconst 2, 1, 0, 0, 0), (28, .anewarray 9, 3, 3, 0, 0), (31, .putfield 19, 3, 11, 2, 3)],
  [(34, .aload_n 0, 1, 0, 0, 0), (35, .iconst 2, 1, 0, 0, 0), (36, .newarray .boolean, 2, 0, 0, 0), (38, .putfield 23, 3, 11, 3, 3), (41, .aload_n 0, 1, 0, 0, 0), (42, .new 27, 3, 9, 0, 0), (45, .dup, 1, 0, 0, 0), (46, .invokespecial 29, 3, 70, 0, 0)],
  [(49, .putfield 30, 3, 11, 4, 3), (52, .aload_n 0, 1, 0, 0, 0), (53, .bipush 6, 2, 0, 0, 0), (55, .anewarray 34, 3, 4, 0, 0), (58, .putfield 36, 3, 11, 5, 3), (61, .aload_n 0, 1, 0, 0, 0), (62, .new 40, 3, 5, 0, 0)],
  [(65, .dup, 1, 0, 0, 0), (66, .aload_n 0, 1, 0, 0, 0), (67, .getfield 12, 3, 11, 0, 3), (70, .invokespecial 42, 3, 40, 1, 0), (73, .putfield 45, 3, 11, 6, 3), (76, .aload_n 0, 1, 0, 0, 0), (77, .new 49, 3, 7, 0, 0)],
  [(80, .dup, 1, 0, 0, 0), (81, .aload_n 0, 1, 0, 0, 0), (82, .getfield 12, 3, 11, 0, 3), (85, .aload_n 0, 1, 0, 0, 0), (86, .getfield 45, 3, 11, 6, 3), (89, .invokespecial 51, 3, 54, 2, 0), (92, .putfield 54, 3, 11, 7, 3), (95, .aload_n 0, 1, 0, 0, 0)],
  [(96, .new 58, 3, 8, 0, 0), (99, .dup, 1, 0, 0, 0), (100, .aload_n 0, 1, 0, 0, 0), (101, .getfield 12, 3, 11, 0, 3), (104, .aload_n 0, 1, 0, 0, 0), (105, .getfield 45, 3, 11, 6, 3), (108, .invokespecial 60, 3, 59, 2, 0), (111, .putfield 61, 3, 11, 8, 3)],
  [(114, .aload_n 0, 1, 0, 0, 0), (115, .lconst 0, 1, 0, 0, 0), (116, .putfield 65, 3, 11, 9, 2), (119, .aload_n 0, 1, 0, 0, 0), (120, .lconst 1, 1, 0, 0, 0), (121, .putfield 69, 3, 11, 10, 2), (124, .iconst 0, 1, 0, 0, 0), (125, .istore_n 1, 1, 0, 0, 0), (126, .iload_n 1, 1, 0, 0, 0), (127, .iconst 2, 1, 0, 0, 0)],
  [(128, .if_icmp .ge 22, 3, 0, 0, 0), (131, .aload_n 0, 1, 0, 0, 0), (132, .getfield 19, 3, 11, 2, 3), (135, .iload_n 1, 1, 0, 0, 0), (136, .new 9, 3, 0, 0, 0), (139, .dup, 1, 0, 0, 0), (140, .invokespecial 11, 3, 0, 0, 0), (143, .aastore, 1, 0, 0, 0)],
  [(144, .iinc 1 1, 3, 0, 0, 0), (147, .goto (-21), 3, 0, 0, 0), (150, .aload_n 0, 1, 0, 0, 0), (151, .getfield 36, 3, 11, 5, 3), (154, .iconst 0, 1, 0, 0, 0), (155, .new 34, 3, 2, 0, 0), (158, .dup, 1, 0, 0, 0), (159, .invokespecial 72, 3, 30, 0, 0)],
  [(162, .aastore, 1, 0, 0, 0), (163, .aload_n 0, 1, 0, 0, 0), (164, .getfield 36, 3, 11, 5, 3), (167, .iconst 1, 1, 0, 0, 0), (168, .new 73, 3, 1, 0, 0), (171, .dup, 1, 0, 0, 0), (172, .invokespecial 75, 3, 28, 0, 0), (175, .aastore, 1, 0, 0, 0)],
  [(176, .aload_n 0, 1, 0, 0, 0), (177, .getfield 36, 3, 11, 5, 3), (180, .iconst 2, 1, 0, 0, 0), (181, .new 76, 3, 4, 0, 0), (184, .dup, 1, 0, 0, 0), (185, .invokespecial 78, 3, 38, 0, 0), (188, .aastore, 1, 0, 0, 0), (189, .aload_n 0, 1, 0, 0, 0), (190, .getfield 36, 3, 11, 5, 3)],
  [(193, .iconst 3, 1, 0, 0, 0), (194, .new 79, 3, 3, 0, 0), (197, .dup, 1, 0, 0, 0), (198, .invokespecial 81, 3, 34, 0, 0), (201, .aastore, 1, 0, 0, 0), (202, .aload_n 0, 1, 0, 0, 0), (203, .getfield 36, 3, 11, 5, 3), (206, .iconst 4, 1, 0, 0, 0), (207, .new 82, 3, 10, 0, 0)],
  [(210, .dup, 1, 0, 0, 0), (211, .invokespecial 84, 3, 82, 0, 0), (214, .aastore, 1, 0, 0, 0), (215, .aload_n 0, 1, 0, 0, 0), (216, .getfield 36, 3, 11, 5, 3), (219, .iconst 5, 1, 0, 0, 0), (220, .new 85, 3, 6, 0, 0), (223, .dup, 1, 0, 0, 0)],
  [(224, .invokespecial 87, 3, 52, 0, 0), (227, .aastore, 1, 0, 0, 0), (228, .return_, 1, 0, 0, 0)]]
/-- WarmNight.put -/
def et_85 : List (List ex_I) := [[(0, .aload_n 0, 1, 0, 0, 0), (1, .getfield 12, 3, 11, 0, 3), (4, .iload_n 1, 1, 0, 0, 0), (5, .iload_n 2, 1, 0, 0, 0), (6, .invokevirtual 88, 3, 34, 2, 0), (9, .ireturn, 1, 0, 0, 0)]]
/-- WarmNight.cell -/
def et_86 : List (List ex_I) := [[(0, .aload_n 0, 1, 0, 0, 0), (1, .getfield 12, 3, 11, 0, 3), (4, .iload_n 1, 1, 0, 0, 0), (5, .iload_n 2, 1, 0, 0, 0), (6, .iload_n 3, 1, 0, 0, 0), (7, .iload 4, 2, 0, 0, 0), (9, .invokevirtual 92, 3, 35, 4, 0), (12, .ireturn, 1, 0, 0, 0)]]
/-- WarmNight.pass -/
def et_87 : List (List ex_I) := [[(0, .aload_n 0, 1, 0, 0, 0), (1, .getfield 12, 3, 11, 0, 3), (4, .iload_n 1, 1, 0, 0, 0), (5, .iload_n 2, 1, 0, 0, 0), (6, .invokevirtual 96, 3, 36, 2, 0), (9, .ireturn, 1, 0, 0, 0)]]
/-- WarmNight.hang -/
def et_88 : List (List ex_I) := [[(0, .aload_n 0, 1, 0, 0, 0), (1, .getfield 12, 3, 11, 0, 3), (4, .iload_n 1, 1, 0, 0, 0), (5, .iload_n 2, 1, 0, 0, 0), (6, .invokevirtual 99, 3, 37, 2, 0), (9, .ireturn, 1, 0, 0, 0)]]
/-- WarmNight.cold -/
def et_89 : List (List ex_I) := [[(0, .aload_n 0, 1, 0, 0, 0), (1, .getfield 12, 3, 11, 0, 3), (4, .iload_n 1, 1, 0, 0, 0), (5, .iload_n 2, 1, 0, 0, 0), (6, .iload_n 3, 1, 0, 0, 0), (7, .invokevirtual 103, 3, 38, 3, 0), (10, .ireturn, 1, 0, 0, 0)]]
/-- WarmNight.help -/
def et_90 : List (List ex_I) := [[(0, .aload_n 0, 1, 0, 0, 0), (1, .getfield 12, 3, 11, 0, 3), (4, .iload_n 1, 1, 0, 0, 0), (5, .iload_n 2, 1, 0, 0, 0), (6, .invokevirtual 107, 3, 39, 2, 0), (9, .ireturn, 1, 0, 0, 0)]]
/-- WarmNight.man -/
def et_91 : List (List ex_I) := [[(0, .aload_n 0, 1, 0, 0, 0), (1, .getfield 12, 3, 11, 0, 3), (4, .iload_n 1, 1, 0, 0, 0), (5, .iload_n 2, 1, 0, 0, 0), (6, .iload_n 3, 1, 0, 0, 0), (7, .iload 4, 2, 0, 0, 0), (9, .iload 5, 2, 0, 0, 0), (11, .invokevirtual 110, 3, 40, 5, 0), (14, .ireturn, 1, 0, 0, 0)]]
/-- WarmNight.coat -/
def et_92 : List (List ex_I) := [[(0, .aload_n 0, 1, 0, 0, 0), (1, .getfield 12, 3, 11, 0, 3), (4, .iload_n 1, 1, 0, 0, 0), (5, .iload_n 2, 1, 0, 0, 0), (6, .invokevirtual 114, 3, 41, 2, 0), (9, .ireturn, 1, 0, 0, 0)]]
/-- WarmNight.broken -/
def et_93 : List (List ex_I) := [[(0, .aload_n 0, 1, 0, 0, 0), (1, .getfield 12, 3, 11, 0, 3), (4, .iload_n 1, 1, 0, 0, 0), (5, .iload_n 2, 1, 0, 0, 0), (6, .iload_n 3, 1, 0, 0, 0), (7, .invokevirtual 117, 3, 42, 3, 0), (10, .ireturn, 1, 0, 0, 0)]]
/-- WarmNight.open -/
def et_94 : List (List ex_I) := [[(0, .aload_n 0, 1, 0, 0, 0), (1, .getfield 12, 3, 11, 0, 3), (4, .iload_n 1, 1, 0, 0, 0), (5, .iload_n 2, 1, 0, 0, 0), (6, .invokevirtual 120, 3, 43, 2, 0), (9, .ireturn, 1, 0, 0, 0)]]
/-- WarmNight.plan -/
def et_95 : List (List ex_I) := [[(0, .aload_n 0, 1, 0, 0, 0), (1, .getfield 12, 3, 11, 0, 3), (4, .iload_n 1, 1, 0, 0, 0), (5, .iload_n 2, 1, 0, 0, 0), (6, .invokevirtual 123, 3, 44, 2, 0), (9, .ireturn, 1, 0, 0, 0)]]
/-- WarmNight.type -/
def et_96 : List (List ex_I) := [[(0, .aload_n 0, 1, 0, 0, 0), (1, .getfield 30, 3, 11, 4, 3), (4, .lload_n 1, 1, 0, 0, 0), (5, .iload_n 3, 1, 0, 0, 0), (6, .invokevirtual 126, 3, 45, 2, 0), (9, .ireturn, 1, 0, 0, 0)]]
/-- WarmNight.clear -/
def et_97 : List (List ex_I) := [[(0, .aload_n 0, 1, 0, 0, 0), (1, .getfield 30, 3, 11, 4, 3), (4, .invokevirtual 130, 3, 46, 0, 0), (7, .ireturn, 1, 0, 0, 0)]]
/-- WarmNight.carriage -/
def et_98 : List (List ex_I) := [[(0, .aload_n 0, 1, 0, 0, 0), (1, .getfield 30, 3, 11, 4, 3), (4, .invokevirtual 134, 3, 47, 0, 0), (7, .istore_n 1, 1, 0, 0, 0), (8, .iload_n 1, 1, 0, 0, 0), (9, .iconst (-1), 1, 0, 0, 0), (10, .if_icmp .eq 8, 3, 0, 0, 0), (13, .bipush (-10), 2, 0, 0, 0), (15, .iload_n 1, 1, 0, 0, 0)],
  [(16, .isub, 1, 0, 0, 0), (17, .ireturn, 1, 0, 0, 0), (18, .aload_n 0, 1, 0, 0, 0), (19, .getfield 16, 3, 11, 1, 3), (22, .invokevirtual 137, 3, 0, 0, 0), (25, .iconst 0, 1, 0, 0, 0), (26, .istore_n 2, 1, 0, 0, 0), (27, .iload_n 2, 1, 0, 0, 0), (28, .aload_n 0, 1, 0, 0, 0), (29, .getfield 30, 3, 11, 4, 3)],
  [(32, .getfield 140, 3, 9, 4, 0), (35, .if_icmp .ge 30, 3, 0, 0, 0), (38, .aload_n 0, 1, 0, 0, 0), (39, .getfield 30, 3, 11, 4, 3), (42, .iload_n 2, 1, 0, 0, 0), (43, .aload_n 0, 1, 0, 0, 0), (44, .getfield 16, 3, 11, 1, 3), (47, .invokevirtual 144, 3, 48, 2, 0)],
  [(50, .ifCond .ge 9, 3, 0, 0, 0), (53, .sipush (-1000), 3, 0, 0, 0), (56, .iload_n 2, 1, 0, 0, 0), (57, .isub, 1, 0, 0, 0), (58, .ireturn, 1, 0, 0, 0), (59, .iinc 2 1, 3, 0, 0, 0), (62, .goto (-35), 3, 0, 0, 0)],
  [(65, .aload_n 0, 1, 0, 0, 0), (66, .getfield 12, 3, 11, 0, 3), (69, .aload_n 0, 1, 0, 0, 0), (70, .getfield 16, 3, 11, 1, 3), (73, .invokevirtual 148, 3, 49, 1, 0), (76, .aload_n 0, 1, 0, 0, 0), (77, .getfield 30, 3, 11, 4, 3)],
  [(80, .getfield 140, 3, 9, 4, 0), (83, .ireturn, 1, 0, 0, 0)]]
/-- WarmNight.warmth -/
def et_99 : List (List ex_I) := [[(0, .iload_n 1, 1, 0, 0, 0), (1, .iload_n 2, 1, 0, 0, 0), (2, .invokestatic 151, 3, 120, 2, 0), (5, .ifCond .eq 26, 3, 0, 0, 0), (8, .aload_n 0, 1, 0, 0, 0), (9, .getfield 12, 3, 11, 0, 3), (12, .iload_n 3, 1, 0, 0, 0), (13, .invokevirtual 155, 3, 50, 1, 0)],
  [(16, .ifCond .eq 15, 3, 0, 0, 0), (19, .aload_n 0, 1, 0, 0, 0), (20, .getfield 12, 3, 11, 0, 3), (23, .iload 4, 2, 0, 0, 0), (25, .invokevirtual 159, 3, 13, 1, 0), (28, .ifCond .ne 6, 3, 0, 0, 0), (31, .ldc 162, 2, 0, 0, (-100000))],
  [(33, .ireturn, 1, 0, 0, 0), (34, .aload_n 0, 1, 0, 0, 0), (35, .iload_n 1, 1, 0, 0, 0), (36, .iload_n 2, 1, 0, 0, 0), (37, .invokevirtual 163, 3, 51, 2, 0), (40, .aload_n 0, 1, 0, 0, 0), (41, .getfield 45, 3, 11, 6, 3), (44, .getfield 167, 3, 5, 1, 3), (47, .iload_n 3, 1, 0, 0, 0)],
  [(48, .iconst 1, 1, 0, 0, 0), (49, .iadd, 1, 0, 0, 0), (50, .aaload, 1, 0, 0, 0), (51, .iload 4, 2, 0, 0, 0), (53, .iaload, 1, 0, 0, 0), (54, .ireturn, 1, 0, 0, 0)]]
/-- WarmNight.feels -/
def et_100 : List (List ex_I) := [[(0, .iload_n 1, 1, 0, 0, 0), (1, .iload_n 2, 1, 0, 0, 0), (2, .invokestatic 151, 3, 120, 2, 0), (5, .ifCond .eq 26, 3, 0, 0, 0), (8, .aload_n 0, 1, 0, 0, 0), (9, .getfield 12, 3, 11, 0, 3), (12, .iload_n 3, 1, 0, 0, 0), (13, .invokevirtual 155, 3, 50, 1, 0)],
  [(16, .ifCond .eq 15, 3, 0, 0, 0), (19, .aload_n 0, 1, 0, 0, 0), (20, .getfield 12, 3, 11, 0, 3), (23, .iload 4, 2, 0, 0, 0), (25, .invokevirtual 171, 3, 2, 1, 0), (28, .ifCond .ne 6, 3, 0, 0, 0), (31, .ldc 162, 2, 0, 0, (-100000))],
  [(33, .ireturn, 1, 0, 0, 0), (34, .aload_n 0, 1, 0, 0, 0), (35, .iload_n 1, 1, 0, 0, 0), (36, .iload_n 2, 1, 0, 0, 0), (37, .invokevirtual 163, 3, 51, 2, 0), (40, .aload_n 0, 1, 0, 0, 0), (41, .getfield 45, 3, 11, 6, 3), (44, .iload_n 3, 1, 0, 0, 0), (45, .iload 4, 2, 0, 0, 0), (47, .invokevirtual 174, 3, 16, 2, 0)],
  [(50, .aload_n 0, 1, 0, 0, 0), (51, .getfield 12, 3, 11, 0, 3), (54, .getfield 177, 3, 0, 10, 3), (57, .iload 4, 2, 0, 0, 0), (59, .iaload, 1, 0, 0, 0), (60, .iadd, 1, 0, 0, 0), (61, .ireturn, 1, 0, 0, 0)]]
/-- WarmNight.fuel -/
def et_101 : List (List ex_I) := [[(0, .iload_n 1, 1, 0, 0, 0), (1, .iload_n 2, 1, 0, 0, 0), (2, .invokestatic 151, 3, 120, 2, 0), (5, .ifCond .eq 24, 3, 0, 0, 0), (8, .aload_n 0, 1, 0, 0, 0), (9, .getfield 12, 3, 11, 0, 3), (12, .iload_n 3, 1, 0, 0, 0), (13, .invokevirtual 155, 3, 50, 1, 0)],
  [(16, .ifCond .eq 13, 3, 0, 0, 0), (19, .iload 4, 2, 0, 0, 0), (21, .iconst 0, 1, 0, 0, 0), (22, .iconst 1, 1, 0, 0, 0), (23, .invokestatic 181, 3, 119, 3, 0), (26, .ifCond .ne 6, 3, 0, 0, 0), (29, .ldc 162, 2, 0, 0, (-100000)), (31, .ireturn, 1, 0, 0, 0)],
  [(32, .aload_n 0, 1, 0, 0, 0), (33, .iload_n 1, 1, 0, 0, 0), (34, .iload_n 2, 1, 0, 0, 0), (35, .invokevirtual 163, 3, 51, 2, 0), (38, .iload 4, 2, 0, 0, 0), (40, .ifCond .ne 15, 3, 0, 0, 0), (43, .aload_n 0, 1, 0, 0, 0), (44, .getfield 45, 3, 11, 6, 3), (47, .getfield 185, 3, 5, 5, 3)],
  [(50, .iload_n 3, 1, 0, 0, 0), (51, .iaload, 1, 0, 0, 0), (52, .goto 14, 3, 0, 0, 0), (55, .aload_n 0, 1, 0, 0, 0), (56, .getfield 45, 3, 11, 6, 3), (59, .getfield 188, 3, 5, 2, 3), (62, .iload_n 3, 1, 0, 0, 0), (63, .iconst 1, 1, 0, 0, 0)],
  [(64, .iadd, 1, 0, 0, 0), (65, .iaload, 1, 0, 0, 0), (66, .ireturn, 1, 0, 0, 0)]]
/-- WarmNight.worst -/
def et_102 : List (List ex_I) := [[(0, .iload_n 1, 1, 0, 0, 0), (1, .iload_n 2, 1, 0, 0, 0), (2, .invokestatic 151, 3, 120, 2, 0), (5, .ifCond .ne 6, 3, 0, 0, 0), (8, .ldc 162, 2, 0, 0, (-100000)), (10, .ireturn, 1, 0, 0, 0), (11, .aload_n 0, 1, 0, 0, 0), (12, .iload_n 1, 1, 0, 0, 0), (13, .iload_n 2, 1, 0, 0, 0), (14, .invokevirtual 163, 3, 51, 2, 0)],
  [(17, .aload_n 0, 1, 0, 0, 0), (18, .getfield 45, 3, 11, 6, 3), (21, .invokevirtual 191, 3, 52, 0, 0), (24, .ireturn, 1, 0, 0, 0)]]
/-- WarmNight.falls -/
def et_103 : List (List ex_I) := [[(0, .iload_n 1, 1, 0, 0, 0), (1, .iload_n 2, 1, 0, 0, 0), (2, .invokestatic 151, 3, 120, 2, 0), (5, .ifCond .eq 12, 3, 0, 0, 0), (8, .iload_n 3, 1, 0, 0, 0), (9, .iconst 0, 1, 0, 0, 0), (10, .iconst 1, 1, 0, 0, 0), (11, .invokestatic 181, 3, 119, 3, 0), (14, .ifCond .ne 6, 3, 0, 0, 0)],
  [(17, .ldc 162, 2, 0, 0, (-100000)), (19, .ireturn, 1, 0, 0, 0), (20, .aload_n 0, 1, 0, 0, 0), (21, .iload_n 1, 1, 0, 0, 0), (22, .iload_n 2, 1, 0, 0, 0), (23, .invokevirtual 163, 3, 51, 2, 0), (26, .aload_n 0, 1, 0, 0, 0), (27, .getfield 45, 3, 11, 6, 3), (30, .invokevirtual 194, 3, 17, 0, 0)],
  [(33, .bipush 24, 2, 0, 0, 0), (35, .if_icmp .ne 5, 3, 0, 0, 0), (38, .iconst (-1), 1, 0, 0, 0), (39, .ireturn, 1, 0, 0, 0), (40, .iload_n 3, 1, 0, 0, 0), (41, .ifCond .ne 13, 3, 0, 0, 0), (44, .aload_n 0, 1, 0, 0, 0), (45, .getfield 45, 3, 11, 6, 3)],
  [(48, .invokevirtual 194, 3, 17, 0, 0), (51, .goto 10, 3, 0, 0, 0), (54, .aload_n 0, 1, 0, 0, 0), (55, .getfield 45, 3, 11, 6, 3), (58, .invokevirtual 197, 3, 53, 0, 0), (61, .ireturn, 1, 0, 0, 0)]]
/-- WarmNight.fair -/
def et_104 : List (List ex_I) := [[(0, .iload_n 1, 1, 0, 0, 0), (1, .iload_n 2, 1, 0, 0, 0), (2, .invokestatic 151, 3, 120, 2, 0), (5, .ifCond .ne 6, 3, 0, 0, 0), (8, .ldc 162, 2, 0, 0, (-100000)), (10, .ireturn, 1, 0, 0, 0), (11, .aload_n 0, 1, 0, 0, 0), (12, .iload_n 1, 1, 0, 0, 0), (13, .iload_n 2, 1, 0, 0, 0), (14, .invokevirtual 163, 3, 51, 2, 0)],
  [(17, .aload_n 0, 1, 0, 0, 0), (18, .getfield 45, 3, 11, 6, 3), (21, .invokevirtual 200, 3, 54, 0, 0), (24, .ireturn, 1, 0, 0, 0)]]
/-- WarmNight.best -/
def et_105 : List (List ex_I) := [[(0, .iload_n 1, 1, 0, 0, 0), (1, .iconst (-1), 1, 0, 0, 0), (2, .if_icmp .eq 17, 3, 0, 0, 0), (5, .aload_n 0, 1, 0, 0, 0), (6, .getfield 12, 3, 11, 0, 3), (9, .iload_n 1, 1, 0, 0, 0), (10, .invokevirtual 155, 3, 50, 1, 0), (13, .ifCond .ne 6, 3, 0, 0, 0)],
  [(16, .ldc 162, 2, 0, 0, (-100000)), (18, .ireturn, 1, 0, 0, 0), (19, .aload_n 0, 1, 0, 0, 0), (20, .getfield 12, 3, 11, 0, 3), (23, .invokevirtual 203, 3, 4, 0, 0), (26, .bipush 8, 2, 0, 0, 0), (28, .if_icmp .le 6, 3, 0, 0, 0), (31, .ldc 206, 2, 0, 0, (-200000))],
  [(33, .ireturn, 1, 0, 0, 0), (34, .aload_n 0, 1, 0, 0, 0), (35, .getfield 54, 3, 11, 7, 3), (38, .aload_n 0, 1, 0, 0, 0), (39, .getfield 36, 3, 11, 5, 3), (42, .iconst 5, 1, 0, 0, 0), (43, .aaload, 1, 0, 0, 0), (44, .invokevirtual 207, 3, 55, 1, 0), (47, .iload_n 1, 1, 0, 0, 0)],
  [(48, .iconst (-1), 1, 0, 0, 0), (49, .if_icmp .ne 13, 3, 0, 0, 0), (52, .aload_n 0, 1, 0, 0, 0), (53, .getfield 54, 3, 11, 7, 3), (56, .getfield 211, 3, 7, 6, 0), (59, .goto 11, 3, 0, 0, 0), (62, .aload_n 0, 1, 0, 0, 0), (63, .getfield 54, 3, 11, 7, 3)],
  [(66, .iload_n 1, 1, 0, 0, 0), (67, .invokevirtual 214, 3, 56, 1, 0), (70, .ireturn, 1, 0, 0, 0)]]
/-- WarmNight.take -/
def et_106 : List (List ex_I) := [[(0, .aload_n 0, 1, 0, 0, 0), (1, .getfield 12, 3, 11, 0, 3), (4, .invokevirtual 203, 3, 4, 0, 0), (7, .bipush 8, 2, 0, 0, 0), (9, .if_icmp .le 6, 3, 0, 0, 0), (12, .ldc 206, 2, 0, 0, (-200000)), (14, .ireturn, 1, 0, 0, 0), (15, .aload_n 0, 1, 0, 0, 0)],
  [(16, .getfield 54, 3, 11, 7, 3), (19, .aload_n 0, 1, 0, 0, 0), (20, .getfield 36, 3, 11, 5, 3), (23, .iconst 5, 1, 0, 0, 0), (24, .aaload, 1, 0, 0, 0), (25, .invokevirtual 207, 3, 55, 1, 0), (28, .iconst 0, 1, 0, 0, 0), (29, .istore_n 1, 1, 0, 0, 0), (30, .iload_n 1, 1, 0, 0, 0), (31, .bipush 24, 2, 0, 0, 0)],
  [(33, .if_icmp .ge 41, 3, 0, 0, 0), (36, .aload_n 0, 1, 0, 0, 0), (37, .getfield 12, 3, 11, 0, 3), (40, .iload_n 1, 1, 0, 0, 0), (41, .iload_n 1, 1, 0, 0, 0), (42, .aload_n 0, 1, 0, 0, 0), (43, .getfield 12, 3, 11, 0, 3), (46, .invokevirtual 203, 3, 4, 0, 0)],
  [(49, .if_icmp .ge 14, 3, 0, 0, 0), (52, .aload_n 0, 1, 0, 0, 0), (53, .getfield 54, 3, 11, 7, 3), (56, .iload_n 1, 1, 0, 0, 0), (57, .invokevirtual 214, 3, 56, 1, 0), (60, .goto 4, 3, 0, 0, 0), (63, .iconst 0, 1, 0, 0, 0)],
  [(64, .invokevirtual 123, 3, 44, 2, 0), (67, .pop, 1, 0, 0, 0), (68, .iinc 1 1, 3, 0, 0, 0), (71, .goto (-41), 3, 0, 0, 0), (74, .iconst 1, 1, 0, 0, 0), (75, .ireturn, 1, 0, 0, 0)]]
/-- WarmNight.sit -/
def et_107 : List (List ex_I) := [[(0, .iload_n 1, 1, 0, 0, 0), (1, .iload_n 2, 1, 0, 0, 0), (2, .invokestatic 151, 3, 120, 2, 0), (5, .ifCond .eq 19, 3, 0, 0, 0), (8, .iload_n 3, 1, 0, 0, 0), (9, .iconst (-1), 1, 0, 0, 0), (10, .if_icmp .eq 17, 3, 0, 0, 0), (13, .aload_n 0, 1, 0, 0, 0), (14, .getfield 12, 3, 11, 0, 3)],
  [(17, .iload_n 3, 1, 0, 0, 0), (18, .invokevirtual 171, 3, 2, 1, 0), (21, .ifCond .ne 6, 3, 0, 0, 0), (24, .ldc 162, 2, 0, 0, (-100000)), (26, .ireturn, 1, 0, 0, 0), (27, .aload_n 0, 1, 0, 0, 0), (28, .getfield 12, 3, 11, 0, 3), (31, .invokevirtual 218, 3, 57, 0, 0)],
  [(34, .aload_n 0, 1, 0, 0, 0), (35, .getfield 12, 3, 11, 0, 3), (38, .getfield 221, 3, 0, 14, 0), (41, .if_icmp .ge 6, 3, 0, 0, 0), (44, .ldc 206, 2, 0, 0, (-200000)), (46, .ireturn, 1, 0, 0, 0), (47, .aload_n 0, 1, 0, 0, 0)],
  [(48, .iload_n 1, 1, 0, 0, 0), (49, .iload_n 2, 1, 0, 0, 0), (50, .invokevirtual 163, 3, 51, 2, 0), (53, .aload_n 0, 1, 0, 0, 0), (54, .getfield 61, 3, 11, 8, 3), (57, .invokevirtual 224, 3, 58, 0, 0), (60, .iload_n 3, 1, 0, 0, 0), (61, .iconst (-1), 1, 0, 0, 0), (62, .if_icmp .ne 13, 3, 0, 0, 0)],
  [(65, .aload_n 0, 1, 0, 0, 0), (66, .getfield 61, 3, 11, 8, 3), (69, .getfield 227, 3, 8, 5, 0), (72, .goto 12, 3, 0, 0, 0), (75, .aload_n 0, 1, 0, 0, 0), (76, .getfield 61, 3, 11, 8, 3), (79, .getfield 230, 3, 8, 4, 3)],
  [(82, .iload_n 3, 1, 0, 0, 0), (83, .iaload, 1, 0, 0, 0), (84, .ireturn, 1, 0, 0, 0)]]
/-- WarmNight.coats -/
def et_108 : List (List ex_I) := [[(0, .iload_n 1, 1, 0, 0, 0), (1, .iload_n 2, 1, 0, 0, 0), (2, .invokestatic 151, 3, 120, 2, 0), (5, .ifCond .eq 18, 3, 0, 0, 0), (8, .iload_n 3, 1, 0, 0, 0), (9, .iconst 0, 1, 0, 0, 0), (10, .aload_n 0, 1, 0, 0, 0), (11, .getfield 12, 3, 11, 0, 3), (14, .getfield 221, 3, 0, 14, 0)],
  [(17, .invokestatic 181, 3, 119, 3, 0), (20, .ifCond .ne 6, 3, 0, 0, 0), (23, .ldc 162, 2, 0, 0, (-100000)), (25, .ireturn, 1, 0, 0, 0), (26, .aload_n 0, 1, 0, 0, 0), (27, .getfield 61, 3, 11, 8, 3), (30, .aload_n 0, 1, 0, 0, 0), (31, .getfield 36, 3, 11, 5, 3)],
  [(34, .iload_n 1, 1, 0, 0, 0), (35, .aaload, 1, 0, 0, 0), (36, .iload_n 2, 1, 0, 0, 0), (37, .invokevirtual 233, 3, 59, 2, 0), (40, .aload_n 0, 1, 0, 0, 0), (41, .getfield 61, 3, 11, 8, 3), (44, .iload_n 3, 1, 0, 0, 0), (45, .invokevirtual 237, 3, 60, 1, 0)],
  [(48, .ireturn, 1, 0, 0, 0)]]
/-- WarmNight.fewest -/
def et_109 : List (List ex_I) := [[(0, .iload_n 1, 1, 0, 0, 0), (1, .iload_n 2, 1, 0, 0, 0), (2, .invokestatic 151, 3, 120, 2, 0), (5, .ifCond .ne 6, 3, 0, 0, 0), (8, .ldc 162, 2, 0, 0, (-100000)), (10, .ireturn, 1, 0, 0, 0), (11, .aload_n 0, 1, 0, 0, 0), (12, .getfield 61, 3, 11, 8, 3), (15, .aload_n 0, 1, 0, 0, 0)],
  [(16, .getfield 36, 3, 11, 5, 3), (19, .iload_n 1, 1, 0, 0, 0), (20, .aaload, 1, 0, 0, 0), (21, .iload_n 2, 1, 0, 0, 0), (22, .invokevirtual 233, 3, 59, 2, 0), (25, .aload_n 0, 1, 0, 0, 0), (26, .getfield 61, 3, 11, 8, 3), (29, .invokevirtual 240, 3, 61, 0, 0)],
  [(32, .ireturn, 1, 0, 0, 0)]]
/-- WarmNight.saved -/
def et_110 : List (List ex_I) := [[(0, .iload_n 1, 1, 0, 0, 0), (1, .iload_n 2, 1, 0, 0, 0), (2, .invokestatic 151, 3, 120, 2, 0), (5, .ifCond .ne 6, 3, 0, 0, 0), (8, .ldc 162, 2, 0, 0, (-100000)), (10, .ireturn, 1, 0, 0, 0), (11, .aload_n 0, 1, 0, 0, 0), (12, .getfield 12, 3, 11, 0, 3), (15, .bipush 24, 2, 0, 0, 0)],
  [(17, .invokevirtual 243, 3, 62, 1, 0), (20, .istore_n 3, 1, 0, 0, 0), (21, .iload_n 3, 1, 0, 0, 0), (22, .ifCond .gt 6, 3, 0, 0, 0), (25, .ldc 206, 2, 0, 0, (-200000)), (27, .ireturn, 1, 0, 0, 0), (28, .aload_n 0, 1, 0, 0, 0), (29, .iload_n 1, 1, 0, 0, 0), (30, .iload_n 2, 1, 0, 0, 0), (31, .invokevirtual 163, 3, 51, 2, 0)],
  [(34, .aload_n 0, 1, 0, 0, 0), (35, .aload_n 0, 1, 0, 0, 0), (36, .getfield 12, 3, 11, 0, 3), (39, .aload_n 0, 1, 0, 0, 0), (40, .getfield 45, 3, 11, 6, 3), (43, .invokevirtual 194, 3, 17, 0, 0), (46, .invokevirtual 243, 3, 62, 1, 0)],
  [(49, .iload_n 3, 1, 0, 0, 0), (50, .invokevirtual 246, 3, 63, 2, 0), (53, .iconst 1, 1, 0, 0, 0), (54, .ireturn, 1, 0, 0, 0)]]
/-- WarmNight.keep -/
def et_111 : List (List ex_I) := [[(0, .iload_n 1, 1, 0, 0, 0), (1, .iconst 0, 1, 0, 0, 0), (2, .iconst 4, 1, 0, 0, 0), (3, .invokestatic 181, 3, 119, 3, 0), (6, .ifCond .ne 6, 3, 0, 0, 0), (9, .ldc 162, 2, 0, 0, (-100000)), (11, .ireturn, 1, 0, 0, 0), (12, .aload_n 0, 1, 0, 0, 0), (13, .getfield 12, 3, 11, 0, 3)],
  [(16, .bipush 24, 2, 0, 0, 0), (18, .invokevirtual 243, 3, 62, 1, 0), (21, .ifCond .gt 6, 3, 0, 0, 0), (24, .ldc 206, 2, 0, 0, (-200000)), (26, .ireturn, 1, 0, 0, 0), (27, .iconst 0, 1, 0, 0, 0), (28, .istore_n 2, 1, 0, 0, 0), (29, .iconst (-1), 1, 0, 0, 0), (30, .istore_n 3, 1, 0, 0, 0), (31, .iconst 0, 1, 0, 0, 0)],
  [(32, .istore 4, 2, 0, 0, 0), (34, .iload 4, 2, 0, 0, 0), (36, .bipush 9, 2, 0, 0, 0), (38, .if_icmp .gt 44, 3, 0, 0, 0), (41, .aload_n 0, 1, 0, 0, 0), (42, .iload_n 1, 1, 0, 0, 0), (43, .iload 4, 2, 0, 0, 0), (45, .invokevirtual 163, 3, 51, 2, 0)],
  [(48, .aload_n 0, 1, 0, 0, 0), (49, .getfield 12, 3, 11, 0, 3), (52, .aload_n 0, 1, 0, 0, 0), (53, .getfield 45, 3, 11, 6, 3), (56, .invokevirtual 194, 3, 17, 0, 0), (59, .invokevirtual 243, 3, 62, 1, 0), (62, .istore 5, 2, 0, 0, 0)],
  [(64, .iload 5, 2, 0, 0, 0), (66, .iload_n 3, 1, 0, 0, 0), (67, .if_icmp .le 9, 3, 0, 0, 0), (70, .iload 5, 2, 0, 0, 0), (72, .istore_n 3, 1, 0, 0, 0), (73, .iload 4, 2, 0, 0, 0), (75, .istore_n 2, 1, 0, 0, 0), (76, .iinc 4 1, 3, 0, 0, 0), (79, .goto (-45), 3, 0, 0, 0)],
  [(82, .iload_n 2, 1, 0, 0, 0), (83, .ireturn, 1, 0, 0, 0)]]
/-- WarmNight.worth -/
def et_112 : List (List ex_I) := [[(0, .iload_n 1, 1, 0, 0, 0), (1, .iload_n 2, 1, 0, 0, 0), (2, .invokestatic 151, 3, 120, 2, 0), (5, .ifCond .eq 14, 3, 0, 0, 0), (8, .aload_n 0, 1, 0, 0, 0), (9, .getfield 12, 3, 11, 0, 3), (12, .iload_n 3, 1, 0, 0, 0), (13, .invokevirtual 155, 3, 50, 1, 0)],
  [(16, .ifCond .ne 6, 3, 0, 0, 0), (19, .ldc 162, 2, 0, 0, (-100000)), (21, .ireturn, 1, 0, 0, 0), (22, .aload_n 0, 1, 0, 0, 0), (23, .iload_n 1, 1, 0, 0, 0), (24, .iload_n 2, 1, 0, 0, 0), (25, .invokevirtual 163, 3, 51, 2, 0), (28, .aload_n 0, 1, 0, 0, 0), (29, .getfield 45, 3, 11, 6, 3)],
  [(32, .invokevirtual 191, 3, 52, 0, 0), (35, .istore 4, 2, 0, 0, 0), (37, .aload_n 0, 1, 0, 0, 0), (38, .iload_n 1, 1, 0, 0, 0), (39, .iload_n 2, 1, 0, 0, 0), (40, .iload_n 3, 1, 0, 0, 0), (41, .invokevirtual 249, 3, 64, 3, 0), (44, .iload 4, 2, 0, 0, 0), (46, .isub, 1, 0, 0, 0), (47, .ireturn, 1, 0, 0, 0)]]
/-- WarmNight.when -/
def et_113 : List (List ex_I) := [[(0, .iload_n 1, 1, 0, 0, 0), (1, .iload_n 2, 1, 0, 0, 0), (2, .invokestatic 151, 3, 120, 2, 0), (5, .ifCond .ne 6, 3, 0, 0, 0), (8, .ldc 162, 2, 0, 0, (-100000)), (10, .ireturn, 1, 0, 0, 0), (11, .iconst 0, 1, 0, 0, 0), (12, .istore_n 3, 1, 0, 0, 0), (13, .aload_n 0, 1, 0, 0, 0), (14, .iload_n 1, 1, 0, 0, 0), (15, .iload_n 2, 1, 0, 0, 0)],
  [(16, .iconst 0, 1, 0, 0, 0), (17, .invokevirtual 249, 3, 64, 3, 0), (20, .istore 4, 2, 0, 0, 0), (22, .iconst 1, 1, 0, 0, 0), (23, .istore 5, 2, 0, 0, 0), (25, .iload 5, 2, 0, 0, 0), (27, .aload_n 0, 1, 0, 0, 0), (28, .getfield 12, 3, 11, 0, 3), (31, .invokevirtual 203, 3, 4, 0, 0)],
  [(34, .if_icmp .ge 33, 3, 0, 0, 0), (37, .aload_n 0, 1, 0, 0, 0), (38, .iload_n 1, 1, 0, 0, 0), (39, .iload_n 2, 1, 0, 0, 0), (40, .iload 5, 2, 0, 0, 0), (42, .invokevirtual 249, 3, 64, 3, 0), (45, .istore 6, 2, 0, 0, 0), (47, .iload 6, 2, 0, 0, 0)],
  [(49, .iload 4, 2, 0, 0, 0), (51, .if_icmp .le 10, 3, 0, 0, 0), (54, .iload 6, 2, 0, 0, 0), (56, .istore 4, 2, 0, 0, 0), (58, .iload 5, 2, 0, 0, 0), (60, .istore_n 3, 1, 0, 0, 0), (61, .iinc 5 1, 3, 0, 0, 0)],
  [(64, .goto (-39), 3, 0, 0, 0), (67, .iload_n 3, 1, 0, 0, 0), (68, .ireturn, 1, 0, 0, 0)]]
/-- WarmNight.part -/
def et_114 : List (List ex_I) := [[(0, .iload_n 1, 1, 0, 0, 0), (1, .iconst 0, 1, 0, 0, 0), (2, .iconst 1, 1, 0, 0, 0), (3, .invokestatic 181, 3, 119, 3, 0), (6, .ifCond .ne 7, 3, 0, 0, 0), (9, .ldc2_w 252, 3, 0, 0, (-100000)), (12, .lreturn, 1, 0, 0, 0), (13, .iload_n 1, 1, 0, 0, 0), (14, .ifCond .ne 10, 3, 0, 0, 0)],
  [(17, .aload_n 0, 1, 0, 0, 0), (18, .getfield 65, 3, 11, 9, 2), (21, .goto 7, 3, 0, 0, 0), (24, .aload_n 0, 1, 0, 0, 0), (25, .getfield 69, 3, 11, 10, 2), (28, .lreturn, 1, 0, 0, 0)]]
/-- WarmNight.image -/
def et_115 : List (List ex_I) := [[(0, .iload_n 1, 1, 0, 0, 0), (1, .iconst 0, 1, 0, 0, 0), (2, .iconst 1, 1, 0, 0, 0), (3, .invokestatic 181, 3, 119, 3, 0), (6, .ifCond .ne 6, 3, 0, 0, 0), (9, .ldc 162, 2, 0, 0, (-100000)), (11, .ireturn, 1, 0, 0, 0), (12, .aload_n 0, 1, 0, 0, 0), (13, .getfield 19, 3, 11, 2, 3)],
  [(16, .iload_n 1, 1, 0, 0, 0), (17, .aaload, 1, 0, 0, 0), (18, .aload_n 0, 1, 0, 0, 0), (19, .getfield 12, 3, 11, 0, 3), (22, .invokevirtual 148, 3, 49, 1, 0), (25, .aload_n 0, 1, 0, 0, 0), (26, .getfield 23, 3, 11, 3, 3), (29, .iload_n 1, 1, 0, 0, 0), (30, .iconst 1, 1, 0, 0, 0), (31, .bastore, 1, 0, 0, 0)],
  [(32, .iconst 1, 1, 0, 0, 0), (33, .ireturn, 1, 0, 0, 0)]]
/-- WarmNight.from -/
def et_116 : List (List ex_I) := [[(0, .iload_n 1, 1, 0, 0, 0), (1, .iconst 0, 1, 0, 0, 0), (2, .iconst 1, 1, 0, 0, 0), (3, .invokestatic 181, 3, 119, 3, 0), (6, .ifCond .ne 6, 3, 0, 0, 0), (9, .ldc 162, 2, 0, 0, (-100000)), (11, .ireturn, 1, 0, 0, 0), (12, .aload_n 0, 1, 0, 0, 0), (13, .getfield 23, 3, 11, 3, 3)],
  [(16, .iload_n 1, 1, 0, 0, 0), (17, .baload, 1, 0, 0, 0), (18, .ifCond .ne 6, 3, 0, 0, 0), (21, .ldc 206, 2, 0, 0, (-200000)), (23, .ireturn, 1, 0, 0, 0), (24, .aload_n 0, 1, 0, 0, 0), (25, .getfield 12, 3, 11, 0, 3), (28, .aload_n 0, 1, 0, 0, 0), (29, .getfield 19, 3, 11, 2, 3)],
  [(32, .iload_n 1, 1, 0, 0, 0), (33, .aaload, 1, 0, 0, 0), (34, .invokevirtual 148, 3, 49, 1, 0), (37, .iconst 1, 1, 0, 0, 0), (38, .ireturn, 1, 0, 0, 0)]]
/-- WarmNight.count -/
def et_117 : List (List ex_I) := [[(0, .iload_n 1, 1, 0, 0, 0), (1, .tableswitch 66 0 3 #[31, 39, 50, 58], 31, 0, 0, 0)],
  [],
  [(32, .aload_n 0, 1, 0, 0, 0), (33, .getfield 12, 3, 11, 0, 3), (36, .getfield 221, 3, 0, 14, 0), (39, .ireturn, 1, 0, 0, 0), (40, .aload_n 0, 1, 0, 0, 0), (41, .getfield 12, 3, 11, 0, 3), (44, .getfield 254, 3, 0, 17, 0), (47, .invokestatic 257, 3, 204, 1, 0)],
  [(50, .ireturn, 1, 0, 0, 0), (51, .aload_n 0, 1, 0, 0, 0), (52, .getfield 12, 3, 11, 0, 3), (55, .getfield 262, 3, 0, 15, 0), (58, .ireturn, 1, 0, 0, 0), (59, .aload_n 0, 1, 0, 0, 0), (60, .getfield 30, 3, 11, 4, 3), (63, .getfield 265, 3, 9, 1, 0)],
  [(66, .ireturn, 1, 0, 0, 0), (67, .ldc 162, 2, 0, 0, (-100000)), (69, .ireturn, 1, 0, 0, 0)]]
/-- WarmNight.digest -/
def et_118 : List (List ex_I) := [[(0, .ldc2_w 268, 3, 0, 0, 547), (3, .lstore_n 1, 1, 0, 0, 0), (4, .iconst 0, 1, 0, 0, 0), (5, .istore_n 3, 1, 0, 0, 0), (6, .iload_n 3, 1, 0, 0, 0), (7, .iconst 4, 1, 0, 0, 0), (8, .if_icmp .ge 20, 3, 0, 0, 0), (11, .lload_n 1, 1, 0, 0, 0), (12, .aload_n 0, 1, 0, 0, 0), (13, .iload_n 3, 1, 0, 0, 0), (14, .invokevirtual 270, 3, 65, 1, 0)],
  [(17, .i2l, 1, 0, 0, 0), (18, .invokestatic 273, 3, 121, 2, 0), (21, .lstore_n 1, 1, 0, 0, 0), (22, .iinc 3 1, 3, 0, 0, 0), (25, .goto (-19), 3, 0, 0, 0), (28, .aload_n 0, 1, 0, 0, 0), (29, .getfield 12, 3, 11, 0, 3)],
  [(32, .aload_n 0, 1, 0, 0, 0), (33, .getfield 12, 3, 11, 0, 3), (36, .aload_n 0, 1, 0, 0, 0), (37, .getfield 12, 3, 11, 0, 3), (40, .lload_n 1, 1, 0, 0, 0), (41, .invokevirtual 277, 3, 66, 1, 0), (44, .invokevirtual 281, 3, 67, 1, 0), (47, .invokevirtual 284, 3, 68, 1, 0)],
  [(50, .lstore_n 1, 1, 0, 0, 0), (51, .lload_n 1, 1, 0, 0, 0), (52, .aload_n 0, 1, 0, 0, 0), (53, .getfield 65, 3, 11, 9, 2), (56, .invokestatic 273, 3, 121, 2, 0), (59, .aload_n 0, 1, 0, 0, 0), (60, .getfield 69, 3, 11, 10, 2), (63, .invokestatic 273, 3, 121, 2, 0)],
  [(66, .lreturn, 1, 0, 0, 0)]]
/-- WarmNight.within -/
def et_119 : List (List ex_I) := [[(0, .iload_n 0, 1, 0, 0, 0), (1, .iload_n 1, 1, 0, 0, 0), (2, .if_icmp .lt 12, 3, 0, 0, 0), (5, .iload_n 0, 1, 0, 0, 0), (6, .iload_n 2, 1, 0, 0, 0), (7, .if_icmp .gt 7, 3, 0, 0, 0), (10, .iconst 1, 1, 0, 0, 0), (11, .goto 4, 3, 0, 0, 0), (14, .iconst 0, 1, 0, 0, 0), (15, .ireturn, 1, 0, 0, 0)]]
/-- WarmNight.isRule -/
def et_120 : List (List ex_I) := [[(0, .iload_n 0, 1, 0, 0, 0), (1, .iconst 0, 1, 0, 0, 0), (2, .iconst 5, 1, 0, 0, 0), (3, .invokestatic 181, 3, 119, 3, 0), (6, .ifCond .eq 17, 3, 0, 0, 0), (9, .iload_n 1, 1, 0, 0, 0), (10, .iconst 0, 1, 0, 0, 0), (11, .bipush 9, 2, 0, 0, 0), (13, .invokestatic 181, 3, 119, 3, 0)],
  [(16, .ifCond .eq 7, 3, 0, 0, 0), (19, .iconst 1, 1, 0, 0, 0), (20, .goto 4, 3, 0, 0, 0), (23, .iconst 0, 1, 0, 0, 0), (24, .ireturn, 1, 0, 0, 0)]]
/-- WarmNight.mixed -/
def et_121 : List (List ex_I) := [[(0, .ldc2_w 287, 3, 0, 0, 31), (3, .lload_n 0, 1, 0, 0, 0), (4, .lmul, 1, 0, 0, 0), (5, .lload_n 2, 1, 0, 0, 0), (6, .ladd, 1, 0, 0, 0), (7, .lreturn, 1, 0, 0, 0)]]
/-- WarmNight.playAsTold -/
def et_122 : List (List ex_I) := [[(0, .aload_n 0, 1, 0, 0, 0), (1, .getfield 45, 3, 11, 6, 3), (4, .aload_n 0, 1, 0, 0, 0), (5, .getfield 36, 3, 11, 5, 3), (8, .iload_n 1, 1, 0, 0, 0), (9, .aaload, 1, 0, 0, 0), (10, .iload_n 2, 1, 0, 0, 0), (11, .aload_n 0, 1, 0, 0, 0), (12, .getfield 12, 3, 11, 0, 3), (15, .getfield 254, 3, 0, 17, 0)],
  [(18, .aload_n 0, 1, 0, 0, 0), (19, .getfield 12, 3, 11, 0, 3), (22, .getfield 289, 3, 0, 18, 0), (25, .invokevirtual 292, 3, 25, 4, 0), (28, .return_, 1, 0, 0, 0)]]
/-- WarmNight.worstIfTurned -/
def et_123 : List (List ex_I) := [[(0, .aload_n 0, 1, 0, 0, 0), (1, .getfield 45, 3, 11, 6, 3), (4, .aload_n 0, 1, 0, 0, 0), (5, .getfield 36, 3, 11, 5, 3), (8, .iload_n 1, 1, 0, 0, 0), (9, .aaload, 1, 0, 0, 0), (10, .iload_n 2, 1, 0, 0, 0), (11, .aload_n 0, 1, 0, 0, 0), (12, .getfield 12, 3, 11, 0, 3), (15, .getfield 254, 3, 0, 17, 0)],
  [(18, .aload_n 0, 1, 0, 0, 0), (19, .getfield 12, 3, 11, 0, 3), (22, .getfield 289, 3, 0, 18, 0), (25, .iconst 1, 1, 0, 0, 0), (26, .iload_n 3, 1, 0, 0, 0), (27, .ishl, 1, 0, 0, 0), (28, .ixor, 1, 0, 0, 0), (29, .invokevirtual 292, 3, 25, 4, 0)],
  [(32, .aload_n 0, 1, 0, 0, 0), (33, .getfield 45, 3, 11, 6, 3), (36, .invokevirtual 191, 3, 52, 0, 0), (39, .ireturn, 1, 0, 0, 0)]]
/-- WarmNight.setFraction -/
def et_124 : List (List ex_I) := [[(0, .iload_n 1, 1, 0, 0, 0), (1, .iload_n 2, 1, 0, 0, 0), (2, .invokestatic 296, 3, 125, 2, 0), (5, .istore_n 3, 1, 0, 0, 0), (6, .iload_n 3, 1, 0, 0, 0), (7, .ifCond .le 19, 3, 0, 0, 0), (10, .aload_n 0, 1, 0, 0, 0), (11, .iload_n 1, 1, 0, 0, 0), (12, .iload_n 3, 1, 0, 0, 0), (13, .idiv, 1, 0, 0, 0), (14, .i2l, 1, 0, 0, 0), (15, .putfield 65, 3, 11, 9, 2)],
  [(18, .aload_n 0, 1, 0, 0, 0), (19, .iload_n 2, 1, 0, 0, 0), (20, .iload_n 3, 1, 0, 0, 0), (21, .idiv, 1, 0, 0, 0), (22, .i2l, 1, 0, 0, 0), (23, .putfield 69, 3, 11, 10, 2), (26, .return_, 1, 0, 0, 0)]]
/-- WarmNight.commonDivisor -/
def et_125 : List (List ex_I) := [[(0, .iload_n 1, 1, 0, 0, 0), (1, .istore_n 2, 1, 0, 0, 0), (2, .iload_n 0, 1, 0, 0, 0), (3, .istore_n 3, 1, 0, 0, 0), (4, .iconst 0, 1, 0, 0, 0), (5, .istore 4, 2, 0, 0, 0), (7, .iload 4, 2, 0, 0, 0), (9, .bipush 64, 2, 0, 0, 0), (11, .if_icmp .ge 23, 3, 0, 0, 0), (14, .iload_n 3, 1, 0, 0, 0), (15, .ifCond .eq 19, 3, 0, 0, 0)],
  [(18, .iload_n 2, 1, 0, 0, 0), (19, .iload_n 3, 1, 0, 0, 0), (20, .irem, 1, 0, 0, 0), (21, .istore 5, 2, 0, 0, 0), (23, .iload_n 3, 1, 0, 0, 0), (24, .istore_n 2, 1, 0, 0, 0), (25, .iload 5, 2, 0, 0, 0), (27, .istore_n 3, 1, 0, 0, 0), (28, .iinc 4 1, 3, 0, 0, 0), (31, .goto (-24), 3, 0, 0, 0)],
  [(34, .iload_n 2, 1, 0, 0, 0), (35, .ireturn, 1, 0, 0, 0)]]
/-- WarmNightModel.in -/
def et_126 : List (List ex_I) := [[(0, .lload_n 0, 1, 0, 0, 0), (1, .lload_n 2, 1, 0, 0, 0), (2, .lcmp, 1, 0, 0, 0), (3, .ifCond .lt 14, 3, 0, 0, 0), (6, .lload_n 0, 1, 0, 0, 0), (7, .lload 4, 2, 0, 0, 0), (9, .lcmp, 1, 0, 0, 0), (10, .ifCond .gt 7, 3, 0, 0, 0), (13, .iconst 1, 1, 0, 0, 0), (14, .goto 4, 3, 0, 0, 0)],
  [(17, .iconst 0, 1, 0, 0, 0), (18, .ireturn, 1, 0, 0, 0)]]
/-- WarmNightModel.<init> -/
def et_127 : List (List ex_I) := [[(0, .aload_n 0, 1, 0, 0, 0), (1, .invokespecial 1, 3, 0, 0, 1), (4, .aload_n 0, 1, 0, 0, 0), (5, .sipush 230, 3, 0, 0, 0), (8, .newarray .int, 2, 0, 0, 0), (10, .putfield 7, 3, 12, 0, 3), (13, .aload_n 0, 1, 0, 0, 0), (14, .sipush 460, 3, 0, 0, 0)],
  [(17, .newarray .int, 2, 0, 0, 0), (19, .putfield 13, 3, 12, 1, 3), (22, .aload_n 0, 1, 0, 0, 0), (23, .iconst 2, 1, 0, 0, 0), (24, .newarray .boolean, 2, 0, 0, 0), (26, .putfield 16, 3, 12, 2, 3), (29, .aload_n 0, 1, 0, 0, 0), (30, .sipush 230, 3, 0, 0, 0)],
  [(33, .newarray .int, 2, 0, 0, 0), (35, .putfield 20, 3, 12, 3, 3), (38, .aload_n 0, 1, 0, 0, 0), (39, .sipush 300, 3, 0, 0, 0), (42, .newarray .int, 2, 0, 0, 0), (44, .putfield 23, 3, 12, 6, 3), (47, .aload_n 0, 1, 0, 0, 0)],
  [(48, .sipush 300, 3, 0, 0, 0), (51, .newarray .int, 2, 0, 0, 0), (53, .putfield 26, 3, 12, 12, 3), (56, .aload_n 0, 1, 0, 0, 0), (57, .sipush 1500, 3, 0, 0, 0), (60, .newarray .int, 2, 0, 0, 0), (62, .putfield 29, 3, 12, 13, 3)],
  [(65, .aload_n 0, 1, 0, 0, 0), (66, .sipush 192, 3, 0, 0, 0), (69, .newarray .int, 2, 0, 0, 0), (71, .putfield 32, 3, 12, 15, 3), (74, .aload_n 0, 1, 0, 0, 0), (75, .bipush 24, 2, 0, 0, 0), (77, .newarray .int, 2, 0, 0, 0), (79, .putfield 35, 3, 12, 16, 3)],
  [(82, .aload_n 0, 1, 0, 0, 0), (83, .bipush 24, 2, 0, 0, 0), (85, .newarray .int, 2, 0, 0, 0), (87, .putfield 38, 3, 12, 17, 3), (90, .aload_n 0, 1, 0, 0, 0), (91, .bipush 8, 2, 0, 0, 0), (93, .newarray .int, 2, 0, 0, 0), (95, .putfield 41, 3, 12, 18, 3)],
  [(98, .aload_n 0, 1, 0, 0, 0), (99, .bipush 8, 2, 0, 0, 0), (101, .newarray .int, 2, 0, 0, 0), (103, .putfield 44, 3, 12, 19, 3), (106, .aload_n 0, 1, 0, 0, 0), (107, .bipush 24, 2, 0, 0, 0), (109, .newarray .int, 2, 0, 0, 0), (111, .putfield 47, 3, 12, 23, 3)],
  [(114, .aload_n 0, 1, 0, 0, 0), (115, .bipush 24, 2, 0, 0, 0), (117, .newarray .int, 2, 0, 0, 0), (119, .putfield 50, 3, 12, 25, 3), (122, .aload_n 0, 1, 0, 0, 0), (123, .bipush 64, 2, 0, 0, 0), (125, .newarray .int, 2, 0, 0, 0), (127, .putfield 53, 3, 12, 26, 3)],
  [(130, .aload_n 0, 1, 0, 0, 0), (131, .bipush 8, 2, 0, 0, 0), (133, .newarray .int, 2, 0, 0, 0), (135, .putfield 56, 3, 12, 27, 3), (138, .aload_n 0, 1, 0, 0, 0), (139, .bipush 8, 2, 0, 0, 0), (141, .newarray .int, 2, 0, 0, 0), (143, .putfield 59, 3, 12, 28, 3)],
  [(146, .aload_n 0, 1, 0, 0, 0), (147, .bipush 8, 2, 0, 0, 0), (149, .newarray .int, 2, 0, 0, 0), (151, .putfield 62, 3, 12, 29, 3), (154, .aload_n 0, 1, 0, 0, 0), (155, .bipush 8, 2, 0, 0, 0), (157, .newarray .boolean, 2, 0, 0, 0), (159, .putfield 65, 3, 12, 30, 3)],
  [(162, .aload_n 0, 1, 0, 0, 0), (163, .bipush 8, 2, 0, 0, 0), (165, .newarray .boolean, 2, 0, 0, 0), (167, .putfield 68, 3, 12, 31, 3), (170, .aload_n 0, 1, 0, 0, 0), (171, .bipush 8, 2, 0, 0, 0), (173, .newarray .int, 2, 0, 0, 0), (175, .putfield 71, 3, 12, 32, 3)],
  [(178, .aload_n 0, 1, 0, 0, 0), (179, .invokevirtual 74, 3, 69, 0, 0), (182, .aload_n 0, 1, 0, 0, 0), (183, .lconst 1, 1, 0, 0, 0), (184, .putfield 77, 3, 12, 5, 2), (187, .return_, 1, 0, 0, 0)]]
/-- WarmNightModel.begins -/
def et_128 : List (List ex_I) := [[(0, .iconst 0, 1, 0, 0, 0), (1, .istore_n 1, 1, 0, 0, 0), (2, .iload_n 1, 1, 0, 0, 0), (3, .sipush 230, 3, 0, 0, 0), (6, .if_icmp .ge 16, 3, 0, 0, 0), (9, .aload_n 0, 1, 0, 0, 0), (10, .getfield 7, 3, 12, 0, 3), (13, .iload_n 1, 1, 0, 0, 0), (14, .iconst 0, 1, 0, 0, 0), (15, .iastore, 1, 0, 0, 0)],
  [(16, .iinc 1 1, 3, 0, 0, 0), (19, .goto (-17), 3, 0, 0, 0), (22, .aload_n 0, 1, 0, 0, 0), (23, .getfield 7, 3, 12, 0, 3), (26, .iconst 0, 1, 0, 0, 0), (27, .iconst 4, 1, 0, 0, 0), (28, .iastore, 1, 0, 0, 0), (29, .aload_n 0, 1, 0, 0, 0), (30, .getfield 7, 3, 12, 0, 3)],
  [(33, .iconst 2, 1, 0, 0, 0), (34, .iconst 3, 1, 0, 0, 0), (35, .iastore, 1, 0, 0, 0), (36, .aload_n 0, 1, 0, 0, 0), (37, .getfield 7, 3, 12, 0, 3), (40, .iconst 3, 1, 0, 0, 0), (41, .bipush 8, 2, 0, 0, 0), (43, .iastore, 1, 0, 0, 0), (44, .aload_n 0, 1, 0, 0, 0), (45, .getfield 7, 3, 12, 0, 3)],
  [(48, .iconst 4, 1, 0, 0, 0), (49, .bipush 80, 2, 0, 0, 0), (51, .iastore, 1, 0, 0, 0), (52, .aload_n 0, 1, 0, 0, 0), (53, .getfield 7, 3, 12, 0, 3), (56, .iconst 5, 1, 0, 0, 0), (57, .bipush 8, 2, 0, 0, 0), (59, .iastore, 1, 0, 0, 0), (60, .aload_n 0, 1, 0, 0, 0), (61, .getfield 7, 3, 12, 0, 3)],
  [(64, .bipush 6, 2, 0, 0, 0), (66, .bipush 60, 2, 0, 0, 0), (68, .iastore, 1, 0, 0, 0), (69, .aload_n 0, 1, 0, 0, 0), (70, .getfield 7, 3, 12, 0, 3), (73, .bipush 7, 2, 0, 0, 0), (75, .bipush 40, 2, 0, 0, 0), (77, .iastore, 1, 0, 0, 0), (78, .aload_n 0, 1, 0, 0, 0), (79, .getfield 7, 3, 12, 0, 3)],
  [(82, .bipush 8, 2, 0, 0, 0), (84, .iconst 2, 1, 0, 0, 0), (85, .iastore, 1, 0, 0, 0), (86, .aload_n 0, 1, 0, 0, 0), (87, .getfield 7, 3, 12, 0, 3), (90, .bipush 9, 2, 0, 0, 0), (92, .iconst 1, 1, 0, 0, 0), (93, .iastore, 1, 0, 0, 0), (94, .aload_n 0, 1, 0, 0, 0), (95, .getfield 7, 3, 12, 0, 3)],
  [(98, .bipush 10, 2, 0, 0, 0), (100, .iconst 1, 1, 0, 0, 0), (101, .iastore, 1, 0, 0, 0), (102, .iconst 0, 1, 0, 0, 0), (103, .istore_n 1, 1, 0, 0, 0), (104, .iload_n 1, 1, 0, 0, 0), (105, .bipush 8, 2, 0, 0, 0), (107, .if_icmp .ge 64, 3, 0, 0, 0), (110, .aload_n 0, 1, 0, 0, 0), (111, .getfield 7, 3, 12, 0, 3)],
  [(114, .bipush 20, 2, 0, 0, 0), (116, .iconst 5, 1, 0, 0, 0), (117, .iload_n 1, 1, 0, 0, 0), (118, .imul, 1, 0, 0, 0), (119, .iadd, 1, 0, 0, 0), (120, .iconst 1, 1, 0, 0, 0), (121, .iadd, 1, 0, 0, 0), (122, .bipush 10, 2, 0, 0, 0), (124, .iastore, 1, 0, 0, 0), (125, .aload_n 0, 1, 0, 0, 0), (126, .getfield 7, 3, 12, 0, 3)],
  [(129, .bipush 20, 2, 0, 0, 0), (131, .iconst 5, 1, 0, 0, 0), (132, .iload_n 1, 1, 0, 0, 0), (133, .imul, 1, 0, 0, 0), (134, .iadd, 1, 0, 0, 0), (135, .iconst 2, 1, 0, 0, 0), (136, .iadd, 1, 0, 0, 0), (137, .bipush 8, 2, 0, 0, 0), (139, .iastore, 1, 0, 0, 0), (140, .aload_n 0, 1, 0, 0, 0), (141, .getfield 7, 3, 12, 0, 3)],
  [(144, .bipush 20, 2, 0, 0, 0), (146, .iconst 5, 1, 0, 0, 0), (147, .iload_n 1, 1, 0, 0, 0), (148, .imul, 1, 0, 0, 0), (149, .iadd, 1, 0, 0, 0), (150, .iconst 3, 1, 0, 0, 0), (151, .iadd, 1, 0, 0, 0), (152, .iload_n 1, 1, 0, 0, 0), (153, .bipush 7, 2, 0, 0, 0), (155, .if_icmp .ge 8, 3, 0, 0, 0), (158, .bipush 20, 2, 0, 0, 0)],
  [(160, .goto 4, 3, 0, 0, 0), (163, .iconst 0, 1, 0, 0, 0), (164, .iastore, 1, 0, 0, 0), (165, .iinc 1 1, 3, 0, 0, 0), (168, .goto (-64), 3, 0, 0, 0), (171, .iconst 0, 1, 0, 0, 0), (172, .istore_n 1, 1, 0, 0, 0), (173, .iload_n 1, 1, 0, 0, 0), (174, .bipush 24, 2, 0, 0, 0)],
  [(176, .if_icmp .ge 22, 3, 0, 0, 0), (179, .aload_n 0, 1, 0, 0, 0), (180, .getfield 7, 3, 12, 0, 3), (183, .bipush 60, 2, 0, 0, 0), (185, .iconst 4, 1, 0, 0, 0), (186, .iload_n 1, 1, 0, 0, 0), (187, .imul, 1, 0, 0, 0), (188, .iadd, 1, 0, 0, 0), (189, .bipush (-100), 2, 0, 0, 0), (191, .iastore, 1, 0, 0, 0)],
  [(192, .iinc 1 1, 3, 0, 0, 0), (195, .goto (-22), 3, 0, 0, 0), (198, .return_, 1, 0, 0, 0)]]
/-- WarmNightModel.divisor -/
def et_129 : List (List ex_I) := [[(0, .lload_n 0, 1, 0, 0, 0), (1, .lstore 4, 2, 0, 0, 0), (3, .lload_n 2, 1, 0, 0, 0), (4, .lstore 6, 2, 0, 0, 0), (6, .lload 6, 2, 0, 0, 0), (8, .lconst 0, 1, 0, 0, 0), (9, .lcmp, 1, 0, 0, 0), (10, .ifCond .eq 21, 3, 0, 0, 0), (13, .lload 4, 2, 0, 0, 0), (15, .lload 6, 2, 0, 0, 0)],
  [(17, .lrem, 1, 0, 0, 0), (18, .lstore 8, 2, 0, 0, 0), (20, .lload 6, 2, 0, 0, 0), (22, .lstore 4, 2, 0, 0, 0), (24, .lload 8, 2, 0, 0, 0), (26, .lstore 6, 2, 0, 0, 0), (28, .goto (-22), 3, 0, 0, 0), (31, .lload 4, 2, 0, 0, 0)],
  [(33, .lreturn, 1, 0, 0, 0)]]
/-- WarmNightModel.tells -/
def et_130 : List (List ex_I) := [[(0, .lload_n 1, 1, 0, 0, 0), (1, .lload_n 3, 1, 0, 0, 0), (2, .invokestatic 81, 3, 129, 2, 0), (5, .lstore 5, 2, 0, 0, 0), (7, .aload_n 0, 1, 0, 0, 0), (8, .lload_n 1, 1, 0, 0, 0), (9, .lload 5, 2, 0, 0, 0), (11, .ldiv, 1, 0, 0, 0), (12, .putfield 85, 3, 12, 4, 2), (15, .aload_n 0, 1, 0, 0, 0)],
  [(16, .lload_n 3, 1, 0, 0, 0), (17, .lload 5, 2, 0, 0, 0), (19, .ldiv, 1, 0, 0, 0), (20, .putfield 77, 3, 12, 5, 2), (23, .iconst 1, 1, 0, 0, 0), (24, .ireturn, 1, 0, 0, 0)]]
/-- WarmNightModel.sets -/
def et_131 : List (List ex_I) := [[(0, .aload_n 0, 1, 0, 0, 0), (1, .getfield 7, 3, 12, 0, 3), (4, .iload_n 1, 1, 0, 0, 0), (5, .iaload, 1, 0, 0, 0), (6, .istore_n 3, 1, 0, 0, 0), (7, .aload_n 0, 1, 0, 0, 0), (8, .getfield 7, 3, 12, 0, 3), (11, .iload_n 1, 1, 0, 0, 0), (12, .iload_n 2, 1, 0, 0, 0), (13, .iastore, 1, 0, 0, 0), (14, .iload_n 3, 1, 0, 0, 0), (15, .ireturn, 1, 0, 0, 0)]]
/-- WarmNightModel.turns -/
def et_132 : List (List ex_I) := [[(0, .iload_n 2, 1, 0, 0, 0), (1, .ifCond .eq 7, 3, 0, 0, 0), (4, .iconst 1, 1, 0, 0, 0), (5, .goto 4, 3, 0, 0, 0), (8, .iconst 0, 1, 0, 0, 0), (9, .istore_n 3, 1, 0, 0, 0), (10, .aload_n 0, 1, 0, 0, 0), (11, .getfield 7, 3, 12, 0, 3), (14, .iload_n 1, 1, 0, 0, 0), (15, .iaload, 1, 0, 0, 0)],
  [(16, .iload_n 3, 1, 0, 0, 0), (17, .if_icmp .ne 6, 3, 0, 0, 0), (20, .ldc 88, 2, 0, 0, (-200000)), (22, .ireturn, 1, 0, 0, 0), (23, .aload_n 0, 1, 0, 0, 0), (24, .getfield 7, 3, 12, 0, 3), (27, .iload_n 1, 1, 0, 0, 0), (28, .iload_n 3, 1, 0, 0, 0), (29, .iastore, 1, 0, 0, 0), (30, .iconst 1, 1, 0, 0, 0), (31, .ireturn, 1, 0, 0, 0)]]
/-- WarmNightModel.mostOf -/
def et_133 : List (List ex_I) := [[(0, .iload_n 0, 1, 0, 0, 0), (1, .tableswitch 78 0 10 #[59, 62, 62, 65, 68, 72, 68, 68, 75, 62, 75], 59, 0, 0, 0)],
  [],
  [],
  [(60, .bipush 8, 2, 0, 0, 0), (62, .ireturn, 1, 0, 0, 0), (63, .bipush 7, 2, 0, 0, 0)],
  [(65, .ireturn, 1, 0, 0, 0), (66, .bipush 24, 2, 0, 0, 0), (68, .ireturn, 1, 0, 0, 0), (69, .sipush 200, 3, 0, 0, 0), (72, .ireturn, 1, 0, 0, 0), (73, .bipush 60, 2, 0, 0, 0), (75, .ireturn, 1, 0, 0, 0), (76, .bipush 9, 2, 0, 0, 0), (78, .ireturn, 1, 0, 0, 0), (79, .iconst (-1), 1, 0, 0, 0)],
  [(80, .ireturn, 1, 0, 0, 0)]]
/-- WarmNightModel.put -/
def et_134 : List (List ex_I) := [[(0, .iload_n 2, 1, 0, 0, 0), (1, .i2l, 1, 0, 0, 0), (2, .iload_n 1, 1, 0, 0, 0), (3, .ifCond .ne 9, 3, 0, 0, 0), (6, .ldc2_w 89, 3, 0, 0, 2), (9, .goto 13, 3, 0, 0, 0), (12, .iload_n 1, 1, 0, 0, 0), (13, .iconst 3, 1, 0, 0, 0), (14, .if_icmp .ne 7, 3, 0, 0, 0)],
  [(17, .lconst 1, 1, 0, 0, 0), (18, .goto 4, 3, 0, 0, 0), (21, .lconst 0, 1, 0, 0, 0), (22, .iload_n 1, 1, 0, 0, 0), (23, .invokestatic 91, 3, 133, 1, 0), (26, .i2l, 1, 0, 0, 0), (27, .invokestatic 95, 3, 126, 3, 0), (30, .ifCond .eq 12, 3, 0, 0, 0)],
  [(33, .aload_n 0, 1, 0, 0, 0), (34, .iload_n 1, 1, 0, 0, 0), (35, .iload_n 2, 1, 0, 0, 0), (36, .invokevirtual 99, 3, 70, 2, 0), (39, .goto 5, 3, 0, 0, 0), (42, .ldc 103, 2, 0, 0, (-100000)), (44, .ireturn, 1, 0, 0, 0)]]
/-- WarmNightModel.isCell -/
def et_135 : List (List ex_I) := [[(0, .iload_n 0, 1, 0, 0, 0), (1, .i2l, 1, 0, 0, 0), (2, .lconst 0, 1, 0, 0, 0), (3, .ldc2_w 104, 3, 0, 0, 7), (6, .invokestatic 95, 3, 126, 3, 0), (9, .ireturn, 1, 0, 0, 0)]]
/-- WarmNightModel.isQuarter -/
def et_136 : List (List ex_I) := [[(0, .iload_n 0, 1, 0, 0, 0), (1, .i2l, 1, 0, 0, 0), (2, .lconst 0, 1, 0, 0, 0), (3, .ldc2_w 106, 3, 0, 0, 23), (6, .invokestatic 95, 3, 126, 3, 0), (9, .ireturn, 1, 0, 0, 0)]]
/-- WarmNightModel.isWarm -/
def et_137 : List (List ex_I) := [[(0, .iload_n 0, 1, 0, 0, 0), (1, .i2l, 1, 0, 0, 0), (2, .ldc2_w 108, 3, 0, 0, (-300)), (5, .ldc2_w 110, 3, 0, 0, 300), (8, .invokestatic 95, 3, 126, 3, 0), (11, .ireturn, 1, 0, 0, 0)]]
/-- WarmNightModel.cell -/
def et_138 : List (List ex_I) := [[(0, .iload_n 1, 1, 0, 0, 0), (1, .invokestatic 112, 3, 135, 1, 0), (4, .ifCond .eq 35, 3, 0, 0, 0), (7, .iload_n 2, 1, 0, 0, 0), (8, .invokestatic 116, 3, 137, 1, 0), (11, .ifCond .eq 28, 3, 0, 0, 0), (14, .iload_n 3, 1, 0, 0, 0), (15, .i2l, 1, 0, 0, 0)],
  [(16, .lconst 0, 1, 0, 0, 0), (17, .ldc2_w 119, 3, 0, 0, 50), (20, .invokestatic 95, 3, 126, 3, 0), (23, .ifCond .eq 16, 3, 0, 0, 0), (26, .iload 4, 2, 0, 0, 0), (28, .i2l, 1, 0, 0, 0), (29, .lconst 0, 1, 0, 0, 0), (30, .ldc2_w 121, 3, 0, 0, 8)],
  [(33, .invokestatic 95, 3, 126, 3, 0), (36, .ifCond .ne 6, 3, 0, 0, 0), (39, .ldc 103, 2, 0, 0, (-100000)), (41, .ireturn, 1, 0, 0, 0), (42, .aload_n 0, 1, 0, 0, 0), (43, .getfield 7, 3, 12, 0, 3), (46, .bipush 20, 2, 0, 0, 0)],
  [(48, .iconst 5, 1, 0, 0, 0), (49, .iload_n 1, 1, 0, 0, 0), (50, .imul, 1, 0, 0, 0), (51, .iadd, 1, 0, 0, 0), (52, .iload_n 2, 1, 0, 0, 0), (53, .iastore, 1, 0, 0, 0), (54, .aload_n 0, 1, 0, 0, 0), (55, .getfield 7, 3, 12, 0, 3), (58, .bipush 20, 2, 0, 0, 0), (60, .iconst 5, 1, 0, 0, 0), (61, .iload_n 1, 1, 0, 0, 0), (62, .imul, 1, 0, 0, 0), (63, .iadd, 1, 0, 0, 0)],
  [(64, .iconst 1, 1, 0, 0, 0), (65, .iadd, 1, 0, 0, 0), (66, .iload_n 3, 1, 0, 0, 0), (67, .iastore, 1, 0, 0, 0), (68, .aload_n 0, 1, 0, 0, 0), (69, .getfield 7, 3, 12, 0, 3), (72, .bipush 20, 2, 0, 0, 0), (74, .iconst 5, 1, 0, 0, 0), (75, .iload_n 1, 1, 0, 0, 0), (76, .imul, 1, 0, 0, 0), (77, .iadd, 1, 0, 0, 0), (78, .iconst 2, 1, 0, 0, 0), (79, .iadd, 1, 0, 0, 0)],
  [(80, .iload 4, 2, 0, 0, 0), (82, .iastore, 1, 0, 0, 0), (83, .iconst 1, 1, 0, 0, 0), (84, .ireturn, 1, 0, 0, 0)]]
/-- WarmNightModel.pass -/
def et_139 : List (List ex_I) := [[(0, .iload_n 1, 1, 0, 0, 0), (1, .i2l, 1, 0, 0, 0), (2, .lconst 0, 1, 0, 0, 0), (3, .ldc2_w 123, 3, 0, 0, 6), (6, .invokestatic 95, 3, 126, 3, 0), (9, .ifCond .eq 31, 3, 0, 0, 0), (12, .iload_n 2, 1, 0, 0, 0), (13, .i2l, 1, 0, 0, 0), (14, .lconst 0, 1, 0, 0, 0), (15, .ldc2_w 125, 3, 0, 0, 40)],
  [(18, .invokestatic 95, 3, 126, 3, 0), (21, .ifCond .eq 19, 3, 0, 0, 0), (24, .aload_n 0, 1, 0, 0, 0), (25, .bipush 20, 2, 0, 0, 0), (27, .iconst 5, 1, 0, 0, 0), (28, .iload_n 1, 1, 0, 0, 0), (29, .imul, 1, 0, 0, 0), (30, .iadd, 1, 0, 0, 0), (31, .iconst 3, 1, 0, 0, 0)],
  [(32, .iadd, 1, 0, 0, 0), (33, .iload_n 2, 1, 0, 0, 0), (34, .invokevirtual 99, 3, 70, 2, 0), (37, .goto 5, 3, 0, 0, 0), (40, .ldc 103, 2, 0, 0, (-100000)), (42, .ireturn, 1, 0, 0, 0)]]
/-- WarmNightModel.hang -/
def et_140 : List (List ex_I) := [[(0, .iload_n 1, 1, 0, 0, 0), (1, .i2l, 1, 0, 0, 0), (2, .lconst 0, 1, 0, 0, 0), (3, .ldc2_w 123, 3, 0, 0, 6), (6, .invokestatic 95, 3, 126, 3, 0), (9, .ifCond .eq 19, 3, 0, 0, 0), (12, .aload_n 0, 1, 0, 0, 0), (13, .bipush 20, 2, 0, 0, 0), (15, .iconst 5, 1, 0, 0, 0)],
  [(16, .iload_n 1, 1, 0, 0, 0), (17, .imul, 1, 0, 0, 0), (18, .iadd, 1, 0, 0, 0), (19, .iconst 4, 1, 0, 0, 0), (20, .iadd, 1, 0, 0, 0), (21, .iload_n 2, 1, 0, 0, 0), (22, .invokevirtual 127, 3, 71, 2, 0), (25, .goto 5, 3, 0, 0, 0), (28, .ldc 103, 2, 0, 0, (-100000)), (30, .ireturn, 1, 0, 0, 0)]]
/-- WarmNightModel.cold -/
def et_141 : List (List ex_I) := [[(0, .iload_n 1, 1, 0, 0, 0), (1, .invokestatic 131, 3, 136, 1, 0), (4, .ifCond .eq 29, 3, 0, 0, 0), (7, .iload_n 2, 1, 0, 0, 0), (8, .i2l, 1, 0, 0, 0), (9, .lconst 1, 1, 0, 0, 0), (10, .ldc2_w 134, 3, 0, 0, 24), (13, .invokestatic 95, 3, 126, 3, 0)],
  [(16, .ifCond .eq 17, 3, 0, 0, 0), (19, .iload_n 3, 1, 0, 0, 0), (20, .i2l, 1, 0, 0, 0), (21, .ldc2_w 136, 3, 0, 0, (-400)), (24, .ldc2_w 138, 3, 0, 0, 200), (27, .invokestatic 95, 3, 126, 3, 0), (30, .ifCond .ne 6, 3, 0, 0, 0)],
  [(33, .ldc 103, 2, 0, 0, (-100000)), (35, .ireturn, 1, 0, 0, 0), (36, .iload_n 2, 1, 0, 0, 0), (37, .bipush 24, 2, 0, 0, 0), (39, .iload_n 1, 1, 0, 0, 0), (40, .isub, 1, 0, 0, 0), (41, .if_icmp .ge 7, 3, 0, 0, 0), (44, .iload_n 2, 1, 0, 0, 0), (45, .goto 7, 3, 0, 0, 0)],
  [(48, .bipush 24, 2, 0, 0, 0), (50, .iload_n 1, 1, 0, 0, 0), (51, .isub, 1, 0, 0, 0), (52, .istore 4, 2, 0, 0, 0), (54, .iload_n 1, 1, 0, 0, 0), (55, .istore 5, 2, 0, 0, 0), (57, .iload 5, 2, 0, 0, 0), (59, .iload_n 1, 1, 0, 0, 0), (60, .iload 4, 2, 0, 0, 0), (62, .iadd, 1, 0, 0, 0), (63, .if_icmp .ge 22, 3, 0, 0, 0)],
  [(66, .aload_n 0, 1, 0, 0, 0), (67, .getfield 7, 3, 12, 0, 3), (70, .bipush 60, 2, 0, 0, 0), (72, .iconst 4, 1, 0, 0, 0), (73, .iload 5, 2, 0, 0, 0), (75, .imul, 1, 0, 0, 0), (76, .iadd, 1, 0, 0, 0), (77, .iload_n 3, 1, 0, 0, 0), (78, .iastore, 1, 0, 0, 0), (79, .iinc 5 1, 3, 0, 0, 0)],
  [(82, .goto (-25), 3, 0, 0, 0), (85, .iload 4, 2, 0, 0, 0), (87, .ireturn, 1, 0, 0, 0)]]
/-- WarmNightModel.help -/
def et_142 : List (List ex_I) := [[(0, .iload_n 1, 1, 0, 0, 0), (1, .invokestatic 131, 3, 136, 1, 0), (4, .ifCond .eq 31, 3, 0, 0, 0), (7, .iload_n 2, 1, 0, 0, 0), (8, .i2l, 1, 0, 0, 0), (9, .lconst 0, 1, 0, 0, 0), (10, .ldc2_w 140, 3, 0, 0, 9), (13, .invokestatic 95, 3, 126, 3, 0)],
  [(16, .ifCond .eq 19, 3, 0, 0, 0), (19, .aload_n 0, 1, 0, 0, 0), (20, .bipush 60, 2, 0, 0, 0), (22, .iconst 4, 1, 0, 0, 0), (23, .iload_n 1, 1, 0, 0, 0), (24, .imul, 1, 0, 0, 0), (25, .iadd, 1, 0, 0, 0), (26, .iconst 1, 1, 0, 0, 0), (27, .iadd, 1, 0, 0, 0), (28, .iload_n 2, 1, 0, 0, 0), (29, .invokevirtual 99, 3, 70, 2, 0)],
  [(32, .goto 5, 3, 0, 0, 0), (35, .ldc 103, 2, 0, 0, (-100000)), (37, .ireturn, 1, 0, 0, 0)]]
/-- WarmNightModel.man -/
def et_143 : List (List ex_I) := [[(0, .iload_n 1, 1, 0, 0, 0), (1, .invokestatic 112, 3, 135, 1, 0), (4, .ifCond .eq 48, 3, 0, 0, 0), (7, .iload_n 2, 1, 0, 0, 0), (8, .i2l, 1, 0, 0, 0), (9, .lconst 0, 1, 0, 0, 0), (10, .ldc2_w 142, 3, 0, 0, 20), (13, .invokestatic 95, 3, 126, 3, 0)],
  [(16, .ifCond .eq 36, 3, 0, 0, 0), (19, .iload_n 3, 1, 0, 0, 0), (20, .invokestatic 116, 3, 137, 1, 0), (23, .ifCond .eq 29, 3, 0, 0, 0), (26, .iload 4, 2, 0, 0, 0), (28, .i2l, 1, 0, 0, 0), (29, .lconst 0, 1, 0, 0, 0), (30, .ldc2_w 140, 3, 0, 0, 9)],
  [(33, .invokestatic 95, 3, 126, 3, 0), (36, .ifCond .eq 16, 3, 0, 0, 0), (39, .iload 5, 2, 0, 0, 0), (41, .i2l, 1, 0, 0, 0), (42, .lconst 0, 1, 0, 0, 0), (43, .ldc2_w 144, 3, 0, 0, 100), (46, .invokestatic 95, 3, 126, 3, 0)],
  [(49, .ifCond .ne 6, 3, 0, 0, 0), (52, .ldc 103, 2, 0, 0, (-100000)), (54, .ireturn, 1, 0, 0, 0), (55, .aload_n 0, 1, 0, 0, 0), (56, .getfield 7, 3, 12, 0, 3), (59, .bipush 11, 2, 0, 0, 0), (61, .iaload, 1, 0, 0, 0), (62, .bipush 8, 2, 0, 0, 0)],
  [(64, .if_icmp .ne 6, 3, 0, 0, 0), (67, .ldc 146, 2, 0, 0, (-300000)), (69, .ireturn, 1, 0, 0, 0), (70, .sipush 160, 3, 0, 0, 0), (73, .bipush 6, 2, 0, 0, 0), (75, .aload_n 0, 1, 0, 0, 0), (76, .getfield 7, 3, 12, 0, 3), (79, .bipush 11, 2, 0, 0, 0)],
  [(81, .iaload, 1, 0, 0, 0), (82, .imul, 1, 0, 0, 0), (83, .iadd, 1, 0, 0, 0), (84, .istore 6, 2, 0, 0, 0), (86, .aload_n 0, 1, 0, 0, 0), (87, .getfield 7, 3, 12, 0, 3), (90, .iload 6, 2, 0, 0, 0), (92, .iload_n 1, 1, 0, 0, 0), (93, .iastore, 1, 0, 0, 0), (94, .aload_n 0, 1, 0, 0, 0), (95, .getfield 7, 3, 12, 0, 3)],
  [(98, .iload 6, 2, 0, 0, 0), (100, .iconst 1, 1, 0, 0, 0), (101, .iadd, 1, 0, 0, 0), (102, .iload_n 2, 1, 0, 0, 0), (103, .iastore, 1, 0, 0, 0), (104, .aload_n 0, 1, 0, 0, 0), (105, .getfield 7, 3, 12, 0, 3), (108, .iload 6, 2, 0, 0, 0), (110, .iconst 2, 1, 0, 0, 0), (111, .iadd, 1, 0, 0, 0)],
  [(112, .iload_n 3, 1, 0, 0, 0), (113, .iastore, 1, 0, 0, 0), (114, .aload_n 0, 1, 0, 0, 0), (115, .getfield 7, 3, 12, 0, 3), (118, .iload 6, 2, 0, 0, 0), (120, .iconst 3, 1, 0, 0, 0), (121, .iadd, 1, 0, 0, 0), (122, .iload 4, 2, 0, 0, 0), (124, .iastore, 1, 0, 0, 0), (125, .aload_n 0, 1, 0, 0, 0), (126, .getfield 7, 3, 12, 0, 3)],
  [(129, .iload 6, 2, 0, 0, 0), (131, .iconst 4, 1, 0, 0, 0), (132, .iadd, 1, 0, 0, 0), (133, .iload 5, 2, 0, 0, 0), (135, .iastore, 1, 0, 0, 0), (136, .aload_n 0, 1, 0, 0, 0), (137, .getfield 7, 3, 12, 0, 3), (140, .iload 6, 2, 0, 0, 0), (142, .iconst 5, 1, 0, 0, 0), (143, .iadd, 1, 0, 0, 0)],
  [(144, .iconst 0, 1, 0, 0, 0), (145, .iastore, 1, 0, 0, 0), (146, .aload_n 0, 1, 0, 0, 0), (147, .getfield 7, 3, 12, 0, 3), (150, .bipush 11, 2, 0, 0, 0), (152, .dup2, 1, 0, 0, 0), (153, .iaload, 1, 0, 0, 0), (154, .iconst 1, 1, 0, 0, 0), (155, .iadd, 1, 0, 0, 0), (156, .iastore, 1, 0, 0, 0), (157, .aload_n 0, 1, 0, 0, 0), (158, .getfield 7, 3, 12, 0, 3)],
  [(161, .bipush 11, 2, 0, 0, 0), (163, .iaload, 1, 0, 0, 0), (164, .iconst 1, 1, 0, 0, 0), (165, .isub, 1, 0, 0, 0), (166, .ireturn, 1, 0, 0, 0)]]
/-- WarmNightModel.isMan -/
def et_144 : List (List ex_I) := [[(0, .iload_n 1, 1, 0, 0, 0), (1, .i2l, 1, 0, 0, 0), (2, .lconst 0, 1, 0, 0, 0), (3, .aload_n 0, 1, 0, 0, 0), (4, .getfield 7, 3, 12, 0, 3), (7, .bipush 11, 2, 0, 0, 0), (9, .iaload, 1, 0, 0, 0), (10, .iconst 1, 1, 0, 0, 0), (11, .isub, 1, 0, 0, 0), (12, .i2l, 1, 0, 0, 0), (13, .invokestatic 95, 3, 126, 3, 0)],
  [(16, .ireturn, 1, 0, 0, 0)]]
/-- WarmNightModel.coat -/
def et_145 : List (List ex_I) := [[(0, .aload_n 0, 1, 0, 0, 0), (1, .iload_n 1, 1, 0, 0, 0), (2, .invokevirtual 147, 3, 72, 1, 0), (5, .ifCond .eq 21, 3, 0, 0, 0), (8, .aload_n 0, 1, 0, 0, 0), (9, .sipush 160, 3, 0, 0, 0), (12, .bipush 6, 2, 0, 0, 0), (14, .iload_n 1, 1, 0, 0, 0), (15, .imul, 1, 0, 0, 0)],
  [(16, .iadd, 1, 0, 0, 0), (17, .iconst 5, 1, 0, 0, 0), (18, .iadd, 1, 0, 0, 0), (19, .iload_n 2, 1, 0, 0, 0), (20, .invokevirtual 127, 3, 71, 2, 0), (23, .goto 5, 3, 0, 0, 0), (26, .ldc 103, 2, 0, 0, (-100000)), (28, .ireturn, 1, 0, 0, 0)]]
/-- WarmNightModel.broken -/
def et_146 : List (List ex_I) := [[(0, .iload_n 1, 1, 0, 0, 0), (1, .invokestatic 131, 3, 136, 1, 0), (4, .ifCond .eq 22, 3, 0, 0, 0), (7, .iload_n 2, 1, 0, 0, 0), (8, .invokestatic 112, 3, 135, 1, 0), (11, .ifCond .eq 15, 3, 0, 0, 0), (14, .iload_n 3, 1, 0, 0, 0), (15, .i2l, 1, 0, 0, 0)],
  [(16, .lconst 0, 1, 0, 0, 0), (17, .ldc2_w 119, 3, 0, 0, 50), (20, .invokestatic 95, 3, 126, 3, 0), (23, .ifCond .ne 6, 3, 0, 0, 0), (26, .ldc 103, 2, 0, 0, (-100000)), (28, .ireturn, 1, 0, 0, 0), (29, .aload_n 0, 1, 0, 0, 0), (30, .getfield 7, 3, 12, 0, 3)],
  [(33, .bipush 12, 2, 0, 0, 0), (35, .iaload, 1, 0, 0, 0), (36, .iconst 4, 1, 0, 0, 0), (37, .if_icmp .ne 6, 3, 0, 0, 0), (40, .ldc 146, 2, 0, 0, (-300000)), (42, .ireturn, 1, 0, 0, 0), (43, .sipush 210, 3, 0, 0, 0), (46, .iconst 3, 1, 0, 0, 0), (47, .aload_n 0, 1, 0, 0, 0)],
  [(48, .getfield 7, 3, 12, 0, 3), (51, .bipush 12, 2, 0, 0, 0), (53, .iaload, 1, 0, 0, 0), (54, .imul, 1, 0, 0, 0), (55, .iadd, 1, 0, 0, 0), (56, .istore 4, 2, 0, 0, 0), (58, .aload_n 0, 1, 0, 0, 0), (59, .getfield 7, 3, 12, 0, 3), (62, .iload 4, 2, 0, 0, 0)],
  [(64, .iload_n 1, 1, 0, 0, 0), (65, .iastore, 1, 0, 0, 0), (66, .aload_n 0, 1, 0, 0, 0), (67, .getfield 7, 3, 12, 0, 3), (70, .iload 4, 2, 0, 0, 0), (72, .iconst 1, 1, 0, 0, 0), (73, .iadd, 1, 0, 0, 0), (74, .iload_n 2, 1, 0, 0, 0), (75, .iastore, 1, 0, 0, 0), (76, .aload_n 0, 1, 0, 0, 0), (77, .getfield 7, 3, 12, 0, 3)],
  [(80, .iload 4, 2, 0, 0, 0), (82, .iconst 2, 1, 0, 0, 0), (83, .iadd, 1, 0, 0, 0), (84, .iload_n 3, 1, 0, 0, 0), (85, .iastore, 1, 0, 0, 0), (86, .aload_n 0, 1, 0, 0, 0), (87, .getfield 7, 3, 12, 0, 3), (90, .bipush 12, 2, 0, 0, 0), (92, .dup2, 1, 0, 0, 0), (93, .iaload, 1, 0, 0, 0), (94, .iconst 1, 1, 0, 0, 0), (95, .iadd, 1, 0, 0, 0)],
  [(96, .iastore, 1, 0, 0, 0), (97, .aload_n 0, 1, 0, 0, 0), (98, .getfield 7, 3, 12, 0, 3), (101, .bipush 12, 2, 0, 0, 0), (103, .iaload, 1, 0, 0, 0), (104, .iconst 1, 1, 0, 0, 0), (105, .isub, 1, 0, 0, 0), (106, .ireturn, 1, 0, 0, 0)]]
/-- WarmNightModel.open -/
def et_147 : List (List ex_I) := [[(0, .iload_n 1, 1, 0, 0, 0), (1, .invokestatic 131, 3, 136, 1, 0), (4, .ifCond .eq 19, 3, 0, 0, 0), (7, .aload_n 0, 1, 0, 0, 0), (8, .bipush 60, 2, 0, 0, 0), (10, .iconst 4, 1, 0, 0, 0), (11, .iload_n 1, 1, 0, 0, 0), (12, .imul, 1, 0, 0, 0), (13, .iadd, 1, 0, 0, 0), (14, .iconst 3, 1, 0, 0, 0), (15, .iadd, 1, 0, 0, 0)],
  [(16, .iload_n 2, 1, 0, 0, 0), (17, .invokevirtual 127, 3, 71, 2, 0), (20, .goto 5, 3, 0, 0, 0), (23, .ldc 103, 2, 0, 0, (-100000)), (25, .ireturn, 1, 0, 0, 0)]]
/-- WarmNightModel.plan -/
def et_148 : List (List ex_I) := [[(0, .iload_n 1, 1, 0, 0, 0), (1, .invokestatic 131, 3, 136, 1, 0), (4, .ifCond .eq 31, 3, 0, 0, 0), (7, .iload_n 2, 1, 0, 0, 0), (8, .i2l, 1, 0, 0, 0), (9, .lconst 0, 1, 0, 0, 0), (10, .ldc2_w 89, 3, 0, 0, 2), (13, .invokestatic 95, 3, 126, 3, 0)],
  [(16, .ifCond .eq 19, 3, 0, 0, 0), (19, .aload_n 0, 1, 0, 0, 0), (20, .bipush 60, 2, 0, 0, 0), (22, .iconst 4, 1, 0, 0, 0), (23, .iload_n 1, 1, 0, 0, 0), (24, .imul, 1, 0, 0, 0), (25, .iadd, 1, 0, 0, 0), (26, .iconst 2, 1, 0, 0, 0), (27, .iadd, 1, 0, 0, 0), (28, .iload_n 2, 1, 0, 0, 0), (29, .invokevirtual 99, 3, 70, 2, 0)],
  [(32, .goto 5, 3, 0, 0, 0), (35, .ldc 103, 2, 0, 0, (-100000)), (37, .ireturn, 1, 0, 0, 0)]]
/-- WarmNightModel.type -/
def et_149 : List (List ex_I) := [[(0, .iload_n 3, 1, 0, 0, 0), (1, .i2l, 1, 0, 0, 0), (2, .lconst 1, 1, 0, 0, 0), (3, .ldc2_w 121, 3, 0, 0, 8), (6, .invokestatic 95, 3, 126, 3, 0), (9, .ifCond .ne 6, 3, 0, 0, 0), (12, .ldc 103, 2, 0, 0, (-100000)), (14, .ireturn, 1, 0, 0, 0), (15, .aload_n 0, 1, 0, 0, 0)],
  [(16, .getfield 150, 3, 12, 7, 0), (19, .iload_n 3, 1, 0, 0, 0), (20, .iadd, 1, 0, 0, 0), (21, .sipush 300, 3, 0, 0, 0), (24, .if_icmp .le 6, 3, 0, 0, 0), (27, .ldc 146, 2, 0, 0, (-300000)), (29, .ireturn, 1, 0, 0, 0), (30, .iload_n 3, 1, 0, 0, 0), (31, .iconst 1, 1, 0, 0, 0)],
  [(32, .isub, 1, 0, 0, 0), (33, .istore 4, 2, 0, 0, 0), (35, .iload 4, 2, 0, 0, 0), (37, .ifCond .lt 40, 3, 0, 0, 0), (40, .aload_n 0, 1, 0, 0, 0), (41, .getfield 23, 3, 12, 6, 3), (44, .aload_n 0, 1, 0, 0, 0), (45, .getfield 150, 3, 12, 7, 0)],
  [(48, .lload_n 1, 1, 0, 0, 0), (49, .bipush 8, 2, 0, 0, 0), (51, .iload 4, 2, 0, 0, 0), (53, .imul, 1, 0, 0, 0), (54, .lshr, 1, 0, 0, 0), (55, .ldc2_w 154, 3, 0, 0, 255), (58, .land, 1, 0, 0, 0), (59, .l2i, 1, 0, 0, 0), (60, .iastore, 1, 0, 0, 0), (61, .aload_n 0, 1, 0, 0, 0), (62, .dup, 1, 0, 0, 0), (63, .getfield 150, 3, 12, 7, 0)],
  [(66, .iconst 1, 1, 0, 0, 0), (67, .iadd, 1, 0, 0, 0), (68, .putfield 150, 3, 12, 7, 0), (71, .iinc 4 (-1), 3, 0, 0, 0), (74, .goto (-39), 3, 0, 0, 0), (77, .aload_n 0, 1, 0, 0, 0), (78, .getfield 150, 3, 12, 7, 0)],
  [(81, .ireturn, 1, 0, 0, 0)]]
/-- WarmNightModel.clear -/
def et_150 : List (List ex_I) := [[(0, .aload_n 0, 1, 0, 0, 0), (1, .getfield 150, 3, 12, 7, 0), (4, .istore_n 1, 1, 0, 0, 0), (5, .aload_n 0, 1, 0, 0, 0), (6, .iconst 0, 1, 0, 0, 0), (7, .putfield 150, 3, 12, 7, 0), (10, .iload_n 1, 1, 0, 0, 0), (11, .ireturn, 1, 0, 0, 0)]]
/-- WarmNightModel.isAt -/
def et_151 : List (List ex_I) := [[(0, .aload_n 0, 1, 0, 0, 0), (1, .getfield 156, 3, 12, 8, 0), (4, .aload_n 0, 1, 0, 0, 0), (5, .getfield 150, 3, 12, 7, 0), (8, .if_icmp .ge 27, 3, 0, 0, 0), (11, .aload_n 0, 1, 0, 0, 0), (12, .getfield 23, 3, 12, 6, 3), (15, .aload_n 0, 1, 0, 0, 0)],
  [(16, .getfield 156, 3, 12, 8, 0), (19, .iaload, 1, 0, 0, 0), (20, .i2l, 1, 0, 0, 0), (21, .iload_n 1, 1, 0, 0, 0), (22, .i2l, 1, 0, 0, 0), (23, .iload_n 2, 1, 0, 0, 0), (24, .i2l, 1, 0, 0, 0), (25, .invokestatic 95, 3, 126, 3, 0), (28, .ifCond .eq 7, 3, 0, 0, 0), (31, .iconst 1, 1, 0, 0, 0)],
  [(32, .goto 4, 3, 0, 0, 0), (35, .iconst 0, 1, 0, 0, 0), (36, .ireturn, 1, 0, 0, 0)]]
/-- WarmNightModel.wordOf -/
def et_152 : List (List ex_I) := [[(0, .lload_n 0, 1, 0, 0, 0), (1, .ldc2_w 159, 3, 0, 0, 17076), (4, .lcmp, 1, 0, 0, 0), (5, .ifCond .ne 8, 3, 0, 0, 0), (8, .bipush 10, 2, 0, 0, 0), (10, .goto 56, 3, 0, 0, 0), (13, .lload_n 0, 1, 0, 0, 0), (14, .ldc2_w 161, 3, 0, 0, 103820)],
  [(17, .lcmp, 1, 0, 0, 0), (18, .ifCond .ne 8, 3, 0, 0, 0), (21, .bipush 11, 2, 0, 0, 0), (23, .goto 43, 3, 0, 0, 0), (26, .lload_n 0, 1, 0, 0, 0), (27, .ldc2_w 163, 3, 0, 0, 525939), (30, .lcmp, 1, 0, 0, 0), (31, .ifCond .ne 8, 3, 0, 0, 0)],
  [(34, .bipush 12, 2, 0, 0, 0), (36, .goto 30, 3, 0, 0, 0), (39, .lload_n 0, 1, 0, 0, 0), (40, .ldc2_w 165, 3, 0, 0, 263623), (43, .lcmp, 1, 0, 0, 0), (44, .ifCond .ne 8, 3, 0, 0, 0), (47, .bipush 13, 2, 0, 0, 0)],
  [(49, .goto 17, 3, 0, 0, 0), (52, .lload_n 0, 1, 0, 0, 0), (53, .ldc2_w 167, 3, 0, 0, 114052), (56, .lcmp, 1, 0, 0, 0), (57, .ifCond .ne 8, 3, 0, 0, 0), (60, .bipush 14, 2, 0, 0, 0), (62, .goto 4, 3, 0, 0, 0)],
  [(65, .iconst 1, 1, 0, 0, 0), (66, .istore_n 2, 1, 0, 0, 0), (67, .lload_n 0, 1, 0, 0, 0), (68, .ldc2_w 169, 3, 0, 0, 267664), (71, .lcmp, 1, 0, 0, 0), (72, .ifCond .ne 8, 3, 0, 0, 0), (75, .bipush 15, 2, 0, 0, 0), (77, .goto 56, 3, 0, 0, 0)],
  [(80, .lload_n 0, 1, 0, 0, 0), (81, .ldc2_w 171, 3, 0, 0, 13358), (84, .lcmp, 1, 0, 0, 0), (85, .ifCond .ne 8, 3, 0, 0, 0), (88, .bipush 16, 2, 0, 0, 0), (90, .goto 43, 3, 0, 0, 0), (93, .lload_n 0, 1, 0, 0, 0), (94, .ldc2_w 173, 3, 0, 0, 113716)],
  [(97, .lcmp, 1, 0, 0, 0), (98, .ifCond .ne 8, 3, 0, 0, 0), (101, .bipush 17, 2, 0, 0, 0), (103, .goto 30, 3, 0, 0, 0), (106, .lload_n 0, 1, 0, 0, 0), (107, .ldc2_w 175, 3, 0, 0, 2692139), (110, .lcmp, 1, 0, 0, 0), (111, .ifCond .ne 8, 3, 0, 0, 0)],
  [(114, .bipush 18, 2, 0, 0, 0), (116, .goto 17, 3, 0, 0, 0), (119, .lload_n 0, 1, 0, 0, 0), (120, .ldc2_w 177, 3, 0, 0, 508078), (123, .lcmp, 1, 0, 0, 0), (124, .ifCond .ne 8, 3, 0, 0, 0), (127, .bipush 19, 2, 0, 0, 0)],
  [(129, .goto 4, 3, 0, 0, 0), (132, .iconst 1, 1, 0, 0, 0), (133, .istore_n 3, 1, 0, 0, 0), (134, .iload_n 2, 1, 0, 0, 0), (135, .iconst 1, 1, 0, 0, 0), (136, .if_icmp .eq 7, 3, 0, 0, 0), (139, .iload_n 2, 1, 0, 0, 0), (140, .goto 4, 3, 0, 0, 0), (143, .iload_n 3, 1, 0, 0, 0)],
  [(144, .ireturn, 1, 0, 0, 0)]]
/-- WarmNightModel.scans -/
def et_153 : List (List ex_I) := [[(0, .aload_n 0, 1, 0, 0, 0), (1, .bipush 32, 2, 0, 0, 0), (3, .bipush 32, 2, 0, 0, 0), (5, .invokevirtual 179, 3, 73, 2, 0), (8, .ifCond .eq 16, 3, 0, 0, 0), (11, .aload_n 0, 1, 0, 0, 0), (12, .dup, 1, 0, 0, 0), (13, .getfield 156, 3, 12, 8, 0)],
  [(16, .iconst 1, 1, 0, 0, 0), (17, .iadd, 1, 0, 0, 0), (18, .putfield 156, 3, 12, 8, 0), (21, .goto (-21), 3, 0, 0, 0), (24, .aload_n 0, 1, 0, 0, 0), (25, .aload_n 0, 1, 0, 0, 0), (26, .getfield 156, 3, 12, 8, 0), (29, .putfield 183, 3, 12, 9, 0)],
  [(32, .aload_n 0, 1, 0, 0, 0), (33, .getfield 156, 3, 12, 8, 0), (36, .aload_n 0, 1, 0, 0, 0), (37, .getfield 150, 3, 12, 7, 0), (40, .if_icmp .ne 9, 3, 0, 0, 0), (43, .aload_n 0, 1, 0, 0, 0), (44, .iconst 0, 1, 0, 0, 0), (45, .putfield 186, 3, 12, 10, 0)],
  [(48, .return_, 1, 0, 0, 0), (49, .aload_n 0, 1, 0, 0, 0), (50, .bipush 97, 2, 0, 0, 0), (52, .bipush 122, 2, 0, 0, 0), (54, .invokevirtual 179, 3, 73, 2, 0), (57, .ifCond .eq 95, 3, 0, 0, 0), (60, .lconst 0, 1, 0, 0, 0), (61, .lstore_n 1, 1, 0, 0, 0), (62, .aload_n 0, 1, 0, 0, 0), (63, .bipush 97, 2, 0, 0, 0)],
  [(65, .bipush 122, 2, 0, 0, 0), (67, .invokevirtual 179, 3, 73, 2, 0), (70, .ifCond .eq 56, 3, 0, 0, 0), (73, .aload_n 0, 1, 0, 0, 0), (74, .getfield 156, 3, 12, 8, 0), (77, .aload_n 0, 1, 0, 0, 0), (78, .getfield 183, 3, 12, 9, 0)],
  [(81, .isub, 1, 0, 0, 0), (82, .iconst 5, 1, 0, 0, 0), (83, .if_icmp .le 7, 3, 0, 0, 0), (86, .lconst 0, 1, 0, 0, 0), (87, .goto 25, 3, 0, 0, 0), (90, .ldc2_w 189, 3, 0, 0, 32), (93, .lload_n 1, 1, 0, 0, 0), (94, .lmul, 1, 0, 0, 0), (95, .aload_n 0, 1, 0, 0, 0)],
  [(96, .getfield 23, 3, 12, 6, 3), (99, .aload_n 0, 1, 0, 0, 0), (100, .getfield 156, 3, 12, 8, 0), (103, .iaload, 1, 0, 0, 0), (104, .i2l, 1, 0, 0, 0), (105, .ladd, 1, 0, 0, 0), (106, .ldc2_w 191, 3, 0, 0, 97), (109, .lsub, 1, 0, 0, 0), (110, .lconst 1, 1, 0, 0, 0), (111, .ladd, 1, 0, 0, 0)],
  [(112, .lstore_n 1, 1, 0, 0, 0), (113, .aload_n 0, 1, 0, 0, 0), (114, .dup, 1, 0, 0, 0), (115, .getfield 156, 3, 12, 8, 0), (118, .iconst 1, 1, 0, 0, 0), (119, .iadd, 1, 0, 0, 0), (120, .putfield 156, 3, 12, 8, 0), (123, .goto (-61), 3, 0, 0, 0), (126, .aload_n 0, 1, 0, 0, 0), (127, .aload_n 0, 1, 0, 0, 0)],
  [(128, .getfield 156, 3, 12, 8, 0), (131, .aload_n 0, 1, 0, 0, 0), (132, .getfield 183, 3, 12, 9, 0), (135, .isub, 1, 0, 0, 0), (136, .iconst 5, 1, 0, 0, 0), (137, .if_icmp .le 7, 3, 0, 0, 0), (140, .iconst 1, 1, 0, 0, 0), (141, .goto 7, 3, 0, 0, 0)],
  [(144, .lload_n 1, 1, 0, 0, 0), (145, .invokestatic 193, 3, 152, 1, 0), (148, .putfield 186, 3, 12, 10, 0), (151, .return_, 1, 0, 0, 0), (152, .aload_n 0, 1, 0, 0, 0), (153, .bipush 45, 2, 0, 0, 0), (155, .bipush 45, 2, 0, 0, 0), (157, .invokevirtual 179, 3, 73, 2, 0)],
  [(160, .istore_n 1, 1, 0, 0, 0), (161, .aload_n 0, 1, 0, 0, 0), (162, .dup, 1, 0, 0, 0), (163, .getfield 156, 3, 12, 8, 0), (166, .iload_n 1, 1, 0, 0, 0), (167, .ifCond .eq 7, 3, 0, 0, 0), (170, .iconst 1, 1, 0, 0, 0), (171, .goto 4, 3, 0, 0, 0), (174, .iconst 0, 1, 0, 0, 0), (175, .iadd, 1, 0, 0, 0)],
  [(176, .putfield 156, 3, 12, 8, 0), (179, .aload_n 0, 1, 0, 0, 0), (180, .getfield 156, 3, 12, 8, 0), (183, .istore_n 2, 1, 0, 0, 0), (184, .aload_n 0, 1, 0, 0, 0), (185, .iconst 0, 1, 0, 0, 0), (186, .putfield 197, 3, 12, 11, 0), (189, .aload_n 0, 1, 0, 0, 0), (190, .bipush 48, 2, 0, 0, 0)],
  [(192, .bipush 57, 2, 0, 0, 0), (194, .invokevirtual 179, 3, 73, 2, 0), (197, .ifCond .eq 57, 3, 0, 0, 0), (200, .aload_n 0, 1, 0, 0, 0), (201, .aload_n 0, 1, 0, 0, 0), (202, .getfield 156, 3, 12, 8, 0), (205, .iload_n 2, 1, 0, 0, 0), (206, .isub, 1, 0, 0, 0), (207, .iconst 3, 1, 0, 0, 0)],
  [(208, .if_icmp .ge 26, 3, 0, 0, 0), (211, .bipush 10, 2, 0, 0, 0), (213, .aload_n 0, 1, 0, 0, 0), (214, .getfield 197, 3, 12, 11, 0), (217, .imul, 1, 0, 0, 0), (218, .aload_n 0, 1, 0, 0, 0), (219, .getfield 23, 3, 12, 6, 3), (222, .aload_n 0, 1, 0, 0, 0), (223, .getfield 156, 3, 12, 8, 0)],
  [(226, .iaload, 1, 0, 0, 0), (227, .iadd, 1, 0, 0, 0), (228, .bipush 48, 2, 0, 0, 0), (230, .isub, 1, 0, 0, 0), (231, .goto 7, 3, 0, 0, 0), (234, .aload_n 0, 1, 0, 0, 0), (235, .getfield 197, 3, 12, 11, 0), (238, .putfield 197, 3, 12, 11, 0)],
  [(241, .aload_n 0, 1, 0, 0, 0), (242, .dup, 1, 0, 0, 0), (243, .getfield 156, 3, 12, 8, 0), (246, .iconst 1, 1, 0, 0, 0), (247, .iadd, 1, 0, 0, 0), (248, .putfield 156, 3, 12, 8, 0), (251, .goto (-62), 3, 0, 0, 0), (254, .iload_n 1, 1, 0, 0, 0), (255, .ifCond .ne 11, 3, 0, 0, 0)],
  [(258, .aload_n 0, 1, 0, 0, 0), (259, .getfield 156, 3, 12, 8, 0), (262, .iload_n 2, 1, 0, 0, 0), (263, .if_icmp .le 50, 3, 0, 0, 0), (266, .aload_n 0, 1, 0, 0, 0), (267, .aload_n 0, 1, 0, 0, 0), (268, .getfield 156, 3, 12, 8, 0), (271, .iload_n 2, 1, 0, 0, 0)],
  [(272, .isub, 1, 0, 0, 0), (273, .i2l, 1, 0, 0, 0), (274, .lconst 1, 1, 0, 0, 0), (275, .ldc2_w 200, 3, 0, 0, 3), (278, .invokestatic 95, 3, 126, 3, 0), (281, .ifCond .eq 7, 3, 0, 0, 0), (284, .iconst 2, 1, 0, 0, 0), (285, .goto 4, 3, 0, 0, 0)],
  [(288, .iconst 1, 1, 0, 0, 0), (289, .putfield 186, 3, 12, 10, 0), (292, .aload_n 0, 1, 0, 0, 0), (293, .iload_n 1, 1, 0, 0, 0), (294, .ifCond .eq 11, 3, 0, 0, 0), (297, .aload_n 0, 1, 0, 0, 0), (298, .getfield 197, 3, 12, 11, 0), (301, .ineg, 1, 0, 0, 0), (302, .goto 7, 3, 0, 0, 0)],
  [(305, .aload_n 0, 1, 0, 0, 0), (306, .getfield 197, 3, 12, 11, 0), (309, .putfield 197, 3, 12, 11, 0), (312, .return_, 1, 0, 0, 0), (313, .aload_n 0, 1, 0, 0, 0), (314, .aload_n 0, 1, 0, 0, 0), (315, .bipush 59, 2, 0, 0, 0), (317, .bipush 59, 2, 0, 0, 0), (319, .invokevirtual 179, 3, 73, 2, 0)],
  [(322, .ifCond .eq 7, 3, 0, 0, 0), (325, .iconst 3, 1, 0, 0, 0), (326, .goto 4, 3, 0, 0, 0), (329, .iconst 1, 1, 0, 0, 0), (330, .putfield 186, 3, 12, 10, 0), (333, .aload_n 0, 1, 0, 0, 0), (334, .dup, 1, 0, 0, 0), (335, .getfield 156, 3, 12, 8, 0)],
  [(338, .iconst 1, 1, 0, 0, 0), (339, .iadd, 1, 0, 0, 0), (340, .putfield 156, 3, 12, 8, 0), (343, .return_, 1, 0, 0, 0)]]
/-- WarmNightModel.numbers -/
def et_154 : List (List ex_I) := [[(0, .iload_n 0, 1, 0, 0, 0), (1, .tableswitch 59 11 19 #[51, 59, 53, 55, 59, 57, 53, 55, 53], 51, 0, 0, 0)],
  [],
  [],
  [(52, .iconst 4, 1, 0, 0, 0), (53, .ireturn, 1, 0, 0, 0), (54, .iconst 1, 1, 0, 0, 0), (55, .ireturn, 1, 0, 0, 0), (56, .iconst 3, 1, 0, 0, 0), (57, .ireturn, 1, 0, 0, 0), (58, .iconst 5, 1, 0, 0, 0), (59, .ireturn, 1, 0, 0, 0), (60, .iconst 2, 1, 0, 0, 0), (61, .ireturn, 1, 0, 0, 0)]]
/-- WarmNightModel.reads -/
def et_155 : List (List ex_I) := [[(0, .aload_n 0, 1, 0, 0, 0), (1, .iconst 0, 1, 0, 0, 0), (2, .putfield 156, 3, 12, 8, 0), (5, .aload_n 0, 1, 0, 0, 0), (6, .iconst 0, 1, 0, 0, 0), (7, .putfield 202, 3, 12, 14, 0), (10, .aload_n 0, 1, 0, 0, 0), (11, .invokevirtual 205, 3, 74, 0, 0), (14, .aload_n 0, 1, 0, 0, 0), (15, .getfield 186, 3, 12, 10, 0)],
  [(18, .ifCond .eq 104, 3, 0, 0, 0), (21, .aload_n 0, 1, 0, 0, 0), (22, .getfield 186, 3, 12, 10, 0), (25, .istore_n 1, 1, 0, 0, 0), (26, .iload_n 1, 1, 0, 0, 0), (27, .bipush 10, 2, 0, 0, 0), (29, .if_icmp .ge 5, 3, 0, 0, 0)],
  [(32, .iconst 0, 1, 0, 0, 0), (33, .ireturn, 1, 0, 0, 0), (34, .aload_n 0, 1, 0, 0, 0), (35, .invokevirtual 205, 3, 74, 0, 0), (38, .iconst 0, 1, 0, 0, 0), (39, .istore_n 2, 1, 0, 0, 0), (40, .iload_n 2, 1, 0, 0, 0), (41, .iload_n 1, 1, 0, 0, 0), (42, .invokestatic 208, 3, 154, 1, 0), (45, .if_icmp .ge 40, 3, 0, 0, 0)],
  [(48, .aload_n 0, 1, 0, 0, 0), (49, .getfield 186, 3, 12, 10, 0), (52, .iconst 2, 1, 0, 0, 0), (53, .if_icmp .eq 5, 3, 0, 0, 0), (56, .iconst 0, 1, 0, 0, 0), (57, .ireturn, 1, 0, 0, 0), (58, .aload_n 0, 1, 0, 0, 0), (59, .getfield 29, 3, 12, 13, 3), (62, .iconst 5, 1, 0, 0, 0), (63, .aload_n 0, 1, 0, 0, 0)],
  [(64, .getfield 202, 3, 12, 14, 0), (67, .imul, 1, 0, 0, 0), (68, .iload_n 2, 1, 0, 0, 0), (69, .iadd, 1, 0, 0, 0), (70, .aload_n 0, 1, 0, 0, 0), (71, .getfield 197, 3, 12, 11, 0), (74, .iastore, 1, 0, 0, 0), (75, .aload_n 0, 1, 0, 0, 0), (76, .invokevirtual 205, 3, 74, 0, 0), (79, .iinc 2 1, 3, 0, 0, 0)],
  [(82, .goto (-42), 3, 0, 0, 0), (85, .aload_n 0, 1, 0, 0, 0), (86, .getfield 186, 3, 12, 10, 0), (89, .iconst 3, 1, 0, 0, 0), (90, .if_icmp .eq 5, 3, 0, 0, 0), (93, .iconst 0, 1, 0, 0, 0), (94, .ireturn, 1, 0, 0, 0), (95, .aload_n 0, 1, 0, 0, 0)],
  [(96, .getfield 26, 3, 12, 12, 3), (99, .aload_n 0, 1, 0, 0, 0), (100, .getfield 202, 3, 12, 14, 0), (103, .iload_n 1, 1, 0, 0, 0), (104, .iastore, 1, 0, 0, 0), (105, .aload_n 0, 1, 0, 0, 0), (106, .dup, 1, 0, 0, 0), (107, .getfield 202, 3, 12, 14, 0), (110, .iconst 1, 1, 0, 0, 0), (111, .iadd, 1, 0, 0, 0)],
  [(112, .putfield 202, 3, 12, 14, 0), (115, .aload_n 0, 1, 0, 0, 0), (116, .invokevirtual 205, 3, 74, 0, 0), (119, .goto (-105), 3, 0, 0, 0), (122, .iconst 1, 1, 0, 0, 0), (123, .ireturn, 1, 0, 0, 0)]]
/-- WarmNightModel.tellsItem -/
def et_156 : List (List ex_I) := [[(0, .aload_n 0, 1, 0, 0, 0), (1, .getfield 29, 3, 12, 13, 3), (4, .iconst 5, 1, 0, 0, 0), (5, .iload_n 1, 1, 0, 0, 0), (6, .imul, 1, 0, 0, 0), (7, .iaload, 1, 0, 0, 0), (8, .istore_n 2, 1, 0, 0, 0), (9, .aload_n 0, 1, 0, 0, 0), (10, .getfield 29, 3, 12, 13, 3), (13, .iconst 5, 1, 0, 0, 0), (14, .iload_n 1, 1, 0, 0, 0), (15, .imul, 1, 0, 0, 0)],
  [(16, .iconst 1, 1, 0, 0, 0), (17, .iadd, 1, 0, 0, 0), (18, .iaload, 1, 0, 0, 0), (19, .istore_n 3, 1, 0, 0, 0), (20, .aload_n 0, 1, 0, 0, 0), (21, .getfield 29, 3, 12, 13, 3), (24, .iconst 5, 1, 0, 0, 0), (25, .iload_n 1, 1, 0, 0, 0), (26, .imul, 1, 0, 0, 0), (27, .iconst 2, 1, 0, 0, 0), (28, .iadd, 1, 0, 0, 0), (29, .iaload, 1, 0, 0, 0), (30, .istore 4, 2, 0, 0, 0)],
  [(32, .aload_n 0, 1, 0, 0, 0), (33, .getfield 26, 3, 12, 12, 3), (36, .iload_n 1, 1, 0, 0, 0), (37, .iaload, 1, 0, 0, 0), (38, .tableswitch 151 10 18 #[50, 57, 76, 83, 90, 99, 106, 135, 142], 50, 0, 0, 0)],
  [],
  [],
  [(88, .aload_n 0, 1, 0, 0, 0), (89, .iload_n 2, 1, 0, 0, 0), (90, .iload_n 3, 1, 0, 0, 0), (91, .invokevirtual 211, 3, 75, 2, 0), (94, .ireturn, 1, 0, 0, 0), (95, .aload_n 0, 1, 0, 0, 0)],
  [(96, .iload_n 2, 1, 0, 0, 0), (97, .iload_n 3, 1, 0, 0, 0), (98, .iload 4, 2, 0, 0, 0), (100, .aload_n 0, 1, 0, 0, 0), (101, .getfield 29, 3, 12, 13, 3), (104, .iconst 5, 1, 0, 0, 0), (105, .iload_n 1, 1, 0, 0, 0), (106, .imul, 1, 0, 0, 0), (107, .iconst 3, 1, 0, 0, 0), (108, .iadd, 1, 0, 0, 0), (109, .iaload, 1, 0, 0, 0), (110, .invokevirtual 214, 3, 76, 4, 0)],
  [(113, .ireturn, 1, 0, 0, 0), (114, .aload_n 0, 1, 0, 0, 0), (115, .iload_n 2, 1, 0, 0, 0), (116, .iload_n 3, 1, 0, 0, 0), (117, .invokevirtual 218, 3, 77, 2, 0), (120, .ireturn, 1, 0, 0, 0), (121, .aload_n 0, 1, 0, 0, 0), (122, .iload_n 2, 1, 0, 0, 0), (123, .iconst 1, 1, 0, 0, 0), (124, .invokevirtual 221, 3, 78, 2, 0), (127, .ireturn, 1, 0, 0, 0)],
  [(128, .aload_n 0, 1, 0, 0, 0), (129, .iload_n 2, 1, 0, 0, 0), (130, .iload_n 3, 1, 0, 0, 0), (131, .iload 4, 2, 0, 0, 0), (133, .invokevirtual 224, 3, 79, 3, 0), (136, .ireturn, 1, 0, 0, 0), (137, .aload_n 0, 1, 0, 0, 0), (138, .iload_n 2, 1, 0, 0, 0), (139, .iload_n 3, 1, 0, 0, 0), (140, .invokevirtual 228, 3, 80, 2, 0), (143, .ireturn, 1, 0, 0, 0)],
  [(144, .aload_n 0, 1, 0, 0, 0), (145, .iload_n 2, 1, 0, 0, 0), (146, .iload_n 3, 1, 0, 0, 0), (147, .iload 4, 2, 0, 0, 0), (149, .aload_n 0, 1, 0, 0, 0), (150, .getfield 29, 3, 12, 13, 3), (153, .iconst 5, 1, 0, 0, 0), (154, .iload_n 1, 1, 0, 0, 0), (155, .imul, 1, 0, 0, 0), (156, .iconst 3, 1, 0, 0, 0), (157, .iadd, 1, 0, 0, 0), (158, .iaload, 1, 0, 0, 0), (159, .aload_n 0, 1, 0, 0, 0)],
  [(160, .getfield 29, 3, 12, 13, 3), (163, .iconst 5, 1, 0, 0, 0), (164, .iload_n 1, 1, 0, 0, 0), (165, .imul, 1, 0, 0, 0), (166, .iconst 4, 1, 0, 0, 0), (167, .iadd, 1, 0, 0, 0), (168, .iaload, 1, 0, 0, 0), (169, .invokevirtual 231, 3, 81, 5, 0), (172, .ireturn, 1, 0, 0, 0), (173, .aload_n 0, 1, 0, 0, 0), (174, .iload_n 2, 1, 0, 0, 0), (175, .iconst 1, 1, 0, 0, 0)],
  [(176, .invokevirtual 235, 3, 82, 2, 0), (179, .ireturn, 1, 0, 0, 0), (180, .aload_n 0, 1, 0, 0, 0), (181, .iload_n 2, 1, 0, 0, 0), (182, .iload_n 3, 1, 0, 0, 0), (183, .iload 4, 2, 0, 0, 0), (185, .invokevirtual 238, 3, 83, 3, 0), (188, .ireturn, 1, 0, 0, 0), (189, .aload_n 0, 1, 0, 0, 0), (190, .iload_n 2, 1, 0, 0, 0), (191, .iconst 1, 1, 0, 0, 0)],
  [(192, .invokevirtual 241, 3, 84, 2, 0), (195, .ireturn, 1, 0, 0, 0)]]
/-- WarmNightModel.carriage -/
def et_157 : List (List ex_I) := [[(0, .aload_n 0, 1, 0, 0, 0), (1, .invokevirtual 244, 3, 85, 0, 0), (4, .ifCond .ne 11, 3, 0, 0, 0), (7, .bipush (-10), 2, 0, 0, 0), (9, .aload_n 0, 1, 0, 0, 0), (10, .getfield 183, 3, 12, 9, 0), (13, .isub, 1, 0, 0, 0), (14, .ireturn, 1, 0, 0, 0), (15, .iconst 0, 1, 0, 0, 0)],
  [(16, .istore_n 1, 1, 0, 0, 0), (17, .iload_n 1, 1, 0, 0, 0), (18, .sipush 230, 3, 0, 0, 0), (21, .if_icmp .ge 21, 3, 0, 0, 0), (24, .aload_n 0, 1, 0, 0, 0), (25, .getfield 20, 3, 12, 3, 3), (28, .iload_n 1, 1, 0, 0, 0), (29, .aload_n 0, 1, 0, 0, 0), (30, .getfield 7, 3, 12, 0, 3)],
  [(33, .iload_n 1, 1, 0, 0, 0), (34, .iaload, 1, 0, 0, 0), (35, .iastore, 1, 0, 0, 0), (36, .iinc 1 1, 3, 0, 0, 0), (39, .goto (-22), 3, 0, 0, 0), (42, .aload_n 0, 1, 0, 0, 0), (43, .invokevirtual 74, 3, 69, 0, 0), (46, .iconst 0, 1, 0, 0, 0), (47, .istore_n 1, 1, 0, 0, 0)],
  [(48, .iload_n 1, 1, 0, 0, 0), (49, .aload_n 0, 1, 0, 0, 0), (50, .getfield 202, 3, 12, 14, 0), (53, .if_icmp .ge 52, 3, 0, 0, 0), (56, .aload_n 0, 1, 0, 0, 0), (57, .iload_n 1, 1, 0, 0, 0), (58, .invokevirtual 248, 3, 86, 1, 0), (61, .ldc 103, 2, 0, 0, (-100000)), (63, .if_icmp .gt 36, 3, 0, 0, 0)],
  [(66, .iconst 0, 1, 0, 0, 0), (67, .istore_n 2, 1, 0, 0, 0), (68, .iload_n 2, 1, 0, 0, 0), (69, .sipush 230, 3, 0, 0, 0), (72, .if_icmp .ge 21, 3, 0, 0, 0), (75, .aload_n 0, 1, 0, 0, 0), (76, .getfield 7, 3, 12, 0, 3), (79, .iload_n 2, 1, 0, 0, 0)],
  [(80, .aload_n 0, 1, 0, 0, 0), (81, .getfield 20, 3, 12, 3, 3), (84, .iload_n 2, 1, 0, 0, 0), (85, .iaload, 1, 0, 0, 0), (86, .iastore, 1, 0, 0, 0), (87, .iinc 2 1, 3, 0, 0, 0), (90, .goto (-22), 3, 0, 0, 0), (93, .sipush (-1000), 3, 0, 0, 0)],
  [(96, .iload_n 1, 1, 0, 0, 0), (97, .isub, 1, 0, 0, 0), (98, .ireturn, 1, 0, 0, 0), (99, .iinc 1 1, 3, 0, 0, 0), (102, .goto (-54), 3, 0, 0, 0), (105, .aload_n 0, 1, 0, 0, 0), (106, .getfield 202, 3, 12, 14, 0), (109, .ireturn, 1, 0, 0, 0)]]
/-- WarmNightModel.lastOf -/
def et_158 : List (List ex_I) := [[(0, .iload_n 1, 1, 0, 0, 0), (1, .aload_n 0, 1, 0, 0, 0), (2, .getfield 7, 3, 12, 0, 3), (5, .iconst 0, 1, 0, 0, 0), (6, .iaload, 1, 0, 0, 0), (7, .if_icmp .ge 7, 3, 0, 0, 0), (10, .iload_n 1, 1, 0, 0, 0), (11, .goto 11, 3, 0, 0, 0), (14, .aload_n 0, 1, 0, 0, 0), (15, .getfield 7, 3, 12, 0, 3)],
  [(18, .iconst 0, 1, 0, 0, 0), (19, .iaload, 1, 0, 0, 0), (20, .iconst 1, 1, 0, 0, 0), (21, .isub, 1, 0, 0, 0), (22, .ireturn, 1, 0, 0, 0)]]
/-- WarmNightModel.lossOf -/
def et_159 : List (List ex_I) := [[(0, .aload_n 0, 1, 0, 0, 0), (1, .getfield 7, 3, 12, 0, 3), (4, .bipush 20, 2, 0, 0, 0), (6, .iconst 5, 1, 0, 0, 0), (7, .iload_n 1, 1, 0, 0, 0), (8, .imul, 1, 0, 0, 0), (9, .iadd, 1, 0, 0, 0), (10, .iconst 1, 1, 0, 0, 0), (11, .iadd, 1, 0, 0, 0), (12, .iaload, 1, 0, 0, 0), (13, .istore_n 3, 1, 0, 0, 0), (14, .iconst 0, 1, 0, 0, 0), (15, .istore 4, 2, 0, 0, 0)],
  [(17, .iload 4, 2, 0, 0, 0), (19, .aload_n 0, 1, 0, 0, 0), (20, .getfield 7, 3, 12, 0, 3), (23, .bipush 12, 2, 0, 0, 0), (25, .iaload, 1, 0, 0, 0), (26, .if_icmp .ge 57, 3, 0, 0, 0), (29, .sipush 210, 3, 0, 0, 0)],
  [(32, .iconst 3, 1, 0, 0, 0), (33, .iload 4, 2, 0, 0, 0), (35, .imul, 1, 0, 0, 0), (36, .iadd, 1, 0, 0, 0), (37, .istore 5, 2, 0, 0, 0), (39, .aload_n 0, 1, 0, 0, 0), (40, .getfield 7, 3, 12, 0, 3), (43, .iload 5, 2, 0, 0, 0), (45, .iconst 1, 1, 0, 0, 0), (46, .iadd, 1, 0, 0, 0), (47, .iaload, 1, 0, 0, 0)],
  [(48, .iload_n 1, 1, 0, 0, 0), (49, .if_icmp .ne 26, 3, 0, 0, 0), (52, .aload_n 0, 1, 0, 0, 0), (53, .getfield 7, 3, 12, 0, 3), (56, .iload 5, 2, 0, 0, 0), (58, .iaload, 1, 0, 0, 0), (59, .iload_n 2, 1, 0, 0, 0), (60, .if_icmp .gt 15, 3, 0, 0, 0), (63, .aload_n 0, 1, 0, 0, 0)],
  [(64, .getfield 7, 3, 12, 0, 3), (67, .iload 5, 2, 0, 0, 0), (69, .iconst 2, 1, 0, 0, 0), (70, .iadd, 1, 0, 0, 0), (71, .iaload, 1, 0, 0, 0), (72, .goto 4, 3, 0, 0, 0), (75, .iload_n 3, 1, 0, 0, 0), (76, .istore_n 3, 1, 0, 0, 0), (77, .iinc 4 1, 3, 0, 0, 0)],
  [(80, .goto (-63), 3, 0, 0, 0), (83, .iload_n 3, 1, 0, 0, 0), (84, .ireturn, 1, 0, 0, 0)]]
/-- WarmNightModel.lowest -/
def et_160 : List (List ex_I) := [[(0, .aload_n 0, 1, 0, 0, 0), (1, .aload_n 0, 1, 0, 0, 0), (2, .getfield 7, 3, 12, 0, 3), (5, .iconst 1, 1, 0, 0, 0), (6, .iaload, 1, 0, 0, 0), (7, .invokevirtual 251, 3, 87, 1, 0), (10, .aload_n 0, 1, 0, 0, 0), (11, .getfield 7, 3, 12, 0, 3), (14, .bipush 9, 2, 0, 0, 0)],
  [(16, .iaload, 1, 0, 0, 0), (17, .isub, 1, 0, 0, 0), (18, .istore_n 1, 1, 0, 0, 0), (19, .iload_n 1, 1, 0, 0, 0), (20, .ifCond .ge 7, 3, 0, 0, 0), (23, .iconst 0, 1, 0, 0, 0), (24, .goto 4, 3, 0, 0, 0), (27, .iload_n 1, 1, 0, 0, 0), (28, .ireturn, 1, 0, 0, 0)]]
/-- WarmNightModel.highest -/
def et_161 : List (List ex_I) := [[(0, .aload_n 0, 1, 0, 0, 0), (1, .aload_n 0, 1, 0, 0, 0), (2, .aload_n 0, 1, 0, 0, 0), (3, .getfield 7, 3, 12, 0, 3), (6, .iconst 1, 1, 0, 0, 0), (7, .iaload, 1, 0, 0, 0), (8, .invokevirtual 251, 3, 87, 1, 0), (11, .aload_n 0, 1, 0, 0, 0), (12, .getfield 7, 3, 12, 0, 3), (15, .bipush 9, 2, 0, 0, 0)],
  [(17, .iaload, 1, 0, 0, 0), (18, .iadd, 1, 0, 0, 0), (19, .invokevirtual 251, 3, 87, 1, 0), (22, .ireturn, 1, 0, 0, 0)]]
/-- WarmNightModel.seatOf -/
def et_162 : List (List ex_I) := [[(0, .aload_n 0, 1, 0, 0, 0), (1, .aload_n 0, 1, 0, 0, 0), (2, .getfield 7, 3, 12, 0, 3), (5, .sipush 160, 3, 0, 0, 0), (8, .bipush 6, 2, 0, 0, 0), (10, .iload_n 2, 1, 0, 0, 0), (11, .imul, 1, 0, 0, 0), (12, .iadd, 1, 0, 0, 0), (13, .iaload, 1, 0, 0, 0), (14, .invokevirtual 251, 3, 87, 1, 0)],
  [(17, .istore 4, 2, 0, 0, 0), (19, .iload_n 1, 1, 0, 0, 0), (20, .iconst 4, 1, 0, 0, 0), (21, .if_icmp .ne 15, 3, 0, 0, 0), (24, .iload 4, 2, 0, 0, 0), (26, .iload_n 3, 1, 0, 0, 0), (27, .iadd, 1, 0, 0, 0), (28, .aload_n 0, 1, 0, 0, 0), (29, .getfield 7, 3, 12, 0, 3)],
  [(32, .iconst 0, 1, 0, 0, 0), (33, .iaload, 1, 0, 0, 0), (34, .irem, 1, 0, 0, 0), (35, .ireturn, 1, 0, 0, 0), (36, .iload_n 1, 1, 0, 0, 0), (37, .iconst 3, 1, 0, 0, 0), (38, .if_icmp .ne 38, 3, 0, 0, 0), (41, .iload 4, 2, 0, 0, 0), (43, .aload_n 0, 1, 0, 0, 0), (44, .invokevirtual 254, 3, 88, 0, 0), (47, .if_icmp .ge 10, 3, 0, 0, 0)],
  [(50, .aload_n 0, 1, 0, 0, 0), (51, .invokevirtual 254, 3, 88, 0, 0), (54, .goto 21, 3, 0, 0, 0), (57, .iload 4, 2, 0, 0, 0), (59, .aload_n 0, 1, 0, 0, 0), (60, .invokevirtual 258, 3, 89, 0, 0), (63, .if_icmp .le 10, 3, 0, 0, 0)],
  [(66, .aload_n 0, 1, 0, 0, 0), (67, .invokevirtual 258, 3, 89, 0, 0), (70, .goto 5, 3, 0, 0, 0), (73, .iload 4, 2, 0, 0, 0), (75, .ireturn, 1, 0, 0, 0), (76, .iload 4, 2, 0, 0, 0), (78, .ireturn, 1, 0, 0, 0)]]
/-- WarmNightModel.wants -/
def et_163 : List (List ex_I) := [[(0, .aload_n 0, 1, 0, 0, 0), (1, .getfield 7, 3, 12, 0, 3), (4, .iconst 3, 1, 0, 0, 0), (5, .iaload, 1, 0, 0, 0), (6, .istore 4, 2, 0, 0, 0), (8, .iload_n 1, 1, 0, 0, 0), (9, .iconst 2, 1, 0, 0, 0), (10, .if_icmp .ne 12, 3, 0, 0, 0), (13, .iload 4, 2, 0, 0, 0), (15, .iconst 1, 1, 0, 0, 0)],
  [(16, .isub, 1, 0, 0, 0), (17, .iload_n 3, 1, 0, 0, 0), (18, .isub, 1, 0, 0, 0), (19, .goto 4, 3, 0, 0, 0), (22, .iload_n 3, 1, 0, 0, 0), (23, .istore 5, 2, 0, 0, 0), (25, .iload_n 1, 1, 0, 0, 0), (26, .iconst 1, 1, 0, 0, 0), (27, .if_icmp .eq 8, 3, 0, 0, 0), (30, .iload_n 1, 1, 0, 0, 0), (31, .iconst 2, 1, 0, 0, 0)],
  [(32, .if_icmp .ne 22, 3, 0, 0, 0), (35, .iload 5, 2, 0, 0, 0), (37, .iload 4, 2, 0, 0, 0), (39, .iconst 1, 1, 0, 0, 0), (40, .iadd, 1, 0, 0, 0), (41, .iconst 2, 1, 0, 0, 0), (42, .idiv, 1, 0, 0, 0), (43, .if_icmp .ge 9, 3, 0, 0, 0), (46, .iconst 2, 1, 0, 0, 0), (47, .iload_n 2, 1, 0, 0, 0)],
  [(48, .imul, 1, 0, 0, 0), (49, .goto 4, 3, 0, 0, 0), (52, .iconst 0, 1, 0, 0, 0), (53, .ireturn, 1, 0, 0, 0), (54, .iload_n 1, 1, 0, 0, 0), (55, .iconst 5, 1, 0, 0, 0), (56, .if_icmp .ne 19, 3, 0, 0, 0), (59, .aload_n 0, 1, 0, 0, 0), (60, .getfield 7, 3, 12, 0, 3), (63, .bipush 60, 2, 0, 0, 0)],
  [(65, .iconst 4, 1, 0, 0, 0), (66, .iload_n 3, 1, 0, 0, 0), (67, .imul, 1, 0, 0, 0), (68, .iadd, 1, 0, 0, 0), (69, .iconst 2, 1, 0, 0, 0), (70, .iadd, 1, 0, 0, 0), (71, .iaload, 1, 0, 0, 0), (72, .goto 4, 3, 0, 0, 0), (75, .iload_n 2, 1, 0, 0, 0), (76, .ireturn, 1, 0, 0, 0)]]
/-- WarmNightModel.isHung -/
def et_164 : List (List ex_I) := [[(0, .aload_n 0, 1, 0, 0, 0), (1, .getfield 7, 3, 12, 0, 3), (4, .bipush 20, 2, 0, 0, 0), (6, .iconst 5, 1, 0, 0, 0), (7, .iload_n 2, 1, 0, 0, 0), (8, .imul, 1, 0, 0, 0), (9, .iadd, 1, 0, 0, 0), (10, .iconst 4, 1, 0, 0, 0), (11, .iadd, 1, 0, 0, 0), (12, .iaload, 1, 0, 0, 0), (13, .iconst 1, 1, 0, 0, 0), (14, .if_icmp .eq 26, 3, 0, 0, 0)],
  [(17, .iload_n 1, 1, 0, 0, 0), (18, .iconst 3, 1, 0, 0, 0), (19, .if_icmp .ne 25, 3, 0, 0, 0), (22, .iload_n 2, 1, 0, 0, 0), (23, .iconst 1, 1, 0, 0, 0), (24, .iadd, 1, 0, 0, 0), (25, .aload_n 0, 1, 0, 0, 0), (26, .invokevirtual 254, 3, 88, 0, 0), (29, .if_icmp .eq 11, 3, 0, 0, 0)],
  [(32, .iload_n 2, 1, 0, 0, 0), (33, .aload_n 0, 1, 0, 0, 0), (34, .invokevirtual 258, 3, 89, 0, 0), (37, .if_icmp .ne 7, 3, 0, 0, 0), (40, .iconst 1, 1, 0, 0, 0), (41, .goto 4, 3, 0, 0, 0), (44, .iconst 0, 1, 0, 0, 0), (45, .ireturn, 1, 0, 0, 0)]]
/-- WarmNightModel.passesNight -/
def et_165 : List (List ex_I) := [[(0, .aload_n 0, 1, 0, 0, 0), (1, .getfield 7, 3, 12, 0, 3), (4, .iconst 0, 1, 0, 0, 0), (5, .iaload, 1, 0, 0, 0), (6, .istore_n 3, 1, 0, 0, 0), (7, .aload_n 0, 1, 0, 0, 0), (8, .getfield 7, 3, 12, 0, 3), (11, .iconst 5, 1, 0, 0, 0), (12, .iaload, 1, 0, 0, 0), (13, .istore 4, 2, 0, 0, 0), (15, .iconst 0, 1, 0, 0, 0)],
  [(16, .istore 5, 2, 0, 0, 0), (18, .iload 5, 2, 0, 0, 0), (20, .iload_n 3, 1, 0, 0, 0), (21, .if_icmp .ge 28, 3, 0, 0, 0), (24, .aload_n 0, 1, 0, 0, 0), (25, .getfield 41, 3, 12, 18, 3), (28, .iload 5, 2, 0, 0, 0), (30, .aload_n 0, 1, 0, 0, 0), (31, .getfield 7, 3, 12, 0, 3)],
  [(34, .bipush 20, 2, 0, 0, 0), (36, .iconst 5, 1, 0, 0, 0), (37, .iload 5, 2, 0, 0, 0), (39, .imul, 1, 0, 0, 0), (40, .iadd, 1, 0, 0, 0), (41, .iaload, 1, 0, 0, 0), (42, .iastore, 1, 0, 0, 0), (43, .iinc 5 1, 3, 0, 0, 0), (46, .goto (-28), 3, 0, 0, 0)],
  [(49, .iconst 0, 1, 0, 0, 0), (50, .istore 5, 2, 0, 0, 0), (52, .iload 5, 2, 0, 0, 0), (54, .aload_n 0, 1, 0, 0, 0), (55, .getfield 7, 3, 12, 0, 3), (58, .iconst 3, 1, 0, 0, 0), (59, .iaload, 1, 0, 0, 0), (60, .if_icmp .ge 406, 3, 0, 0, 0), (63, .aload_n 0, 1, 0, 0, 0)],
  [(64, .iload_n 1, 1, 0, 0, 0), (65, .iload_n 2, 1, 0, 0, 0), (66, .iload 5, 2, 0, 0, 0), (68, .invokevirtual 261, 3, 90, 3, 0), (71, .istore 6, 2, 0, 0, 0), (73, .iload 6, 2, 0, 0, 0), (75, .iload 4, 2, 0, 0, 0), (77, .if_icmp .ge 8, 3, 0, 0, 0)],
  [(80, .iload 6, 2, 0, 0, 0), (82, .goto 5, 3, 0, 0, 0), (85, .iload 4, 2, 0, 0, 0), (87, .istore 6, 2, 0, 0, 0), (89, .iload 4, 2, 0, 0, 0), (91, .iload 6, 2, 0, 0, 0), (93, .isub, 1, 0, 0, 0), (94, .istore 4, 2, 0, 0, 0)],
  [(96, .aload_n 0, 1, 0, 0, 0), (97, .getfield 35, 3, 12, 16, 3), (100, .iload 5, 2, 0, 0, 0), (102, .iload 6, 2, 0, 0, 0), (104, .iastore, 1, 0, 0, 0), (105, .aload_n 0, 1, 0, 0, 0), (106, .getfield 41, 3, 12, 18, 3), (109, .aload_n 0, 1, 0, 0, 0), (110, .aload_n 0, 1, 0, 0, 0), (111, .getfield 7, 3, 12, 0, 3)],
  [(114, .iconst 1, 1, 0, 0, 0), (115, .iaload, 1, 0, 0, 0), (116, .invokevirtual 251, 3, 87, 1, 0), (119, .dup2, 1, 0, 0, 0), (120, .iaload, 1, 0, 0, 0), (121, .aload_n 0, 1, 0, 0, 0), (122, .getfield 7, 3, 12, 0, 3), (125, .iconst 4, 1, 0, 0, 0), (126, .iaload, 1, 0, 0, 0), (127, .iload 6, 2, 0, 0, 0)],
  [(129, .imul, 1, 0, 0, 0), (130, .iadd, 1, 0, 0, 0), (131, .iastore, 1, 0, 0, 0), (132, .aload_n 0, 1, 0, 0, 0), (133, .getfield 7, 3, 12, 0, 3), (136, .bipush 60, 2, 0, 0, 0), (138, .iconst 4, 1, 0, 0, 0), (139, .iload 5, 2, 0, 0, 0), (141, .imul, 1, 0, 0, 0), (142, .iadd, 1, 0, 0, 0), (143, .iconst 3, 1, 0, 0, 0)],
  [(144, .iadd, 1, 0, 0, 0), (145, .iaload, 1, 0, 0, 0), (146, .iconst 1, 1, 0, 0, 0), (147, .if_icmp .ne 40, 3, 0, 0, 0), (150, .aload_n 0, 1, 0, 0, 0), (151, .getfield 41, 3, 12, 18, 3), (154, .aload_n 0, 1, 0, 0, 0), (155, .aload_n 0, 1, 0, 0, 0), (156, .getfield 7, 3, 12, 0, 3), (159, .iconst 2, 1, 0, 0, 0)],
  [(160, .iaload, 1, 0, 0, 0), (161, .invokevirtual 251, 3, 87, 1, 0), (164, .dup2, 1, 0, 0, 0), (165, .iaload, 1, 0, 0, 0), (166, .aload_n 0, 1, 0, 0, 0), (167, .getfield 7, 3, 12, 0, 3), (170, .bipush 7, 2, 0, 0, 0), (172, .iaload, 1, 0, 0, 0), (173, .isub, 1, 0, 0, 0), (174, .iastore, 1, 0, 0, 0), (175, .iload 4, 2, 0, 0, 0)],
  [(177, .aload_n 0, 1, 0, 0, 0), (178, .getfield 7, 3, 12, 0, 3), (181, .bipush 8, 2, 0, 0, 0), (183, .iaload, 1, 0, 0, 0), (184, .iadd, 1, 0, 0, 0), (185, .istore 4, 2, 0, 0, 0), (187, .aload_n 0, 1, 0, 0, 0), (188, .getfield 38, 3, 12, 17, 3), (191, .iload 5, 2, 0, 0, 0)],
  [(193, .iload 4, 2, 0, 0, 0), (195, .iastore, 1, 0, 0, 0), (196, .iconst 0, 1, 0, 0, 0), (197, .istore 7, 2, 0, 0, 0), (199, .iload 7, 2, 0, 0, 0), (201, .iconst 1, 1, 0, 0, 0), (202, .iadd, 1, 0, 0, 0), (203, .iload_n 3, 1, 0, 0, 0), (204, .if_icmp .ge 72, 3, 0, 0, 0), (207, .aload_n 0, 1, 0, 0, 0)],
  [(208, .getfield 7, 3, 12, 0, 3), (211, .bipush 20, 2, 0, 0, 0), (213, .iconst 5, 1, 0, 0, 0), (214, .iload 7, 2, 0, 0, 0), (216, .imul, 1, 0, 0, 0), (217, .iadd, 1, 0, 0, 0), (218, .iconst 3, 1, 0, 0, 0), (219, .iadd, 1, 0, 0, 0), (220, .iaload, 1, 0, 0, 0), (221, .istore 8, 2, 0, 0, 0), (223, .aload_n 0, 1, 0, 0, 0)],
  [(224, .getfield 44, 3, 12, 19, 3), (227, .iload 7, 2, 0, 0, 0), (229, .aload_n 0, 1, 0, 0, 0), (230, .getfield 41, 3, 12, 18, 3), (233, .iload 7, 2, 0, 0, 0), (235, .iaload, 1, 0, 0, 0), (236, .aload_n 0, 1, 0, 0, 0), (237, .getfield 41, 3, 12, 18, 3)],
  [(240, .iload 7, 2, 0, 0, 0), (242, .iconst 1, 1, 0, 0, 0), (243, .iadd, 1, 0, 0, 0), (244, .iaload, 1, 0, 0, 0), (245, .isub, 1, 0, 0, 0), (246, .aload_n 0, 1, 0, 0, 0), (247, .iload_n 1, 1, 0, 0, 0), (248, .iload 7, 2, 0, 0, 0), (250, .invokevirtual 264, 3, 91, 2, 0), (253, .ifCond .eq 10, 3, 0, 0, 0)],
  [(256, .iload 8, 2, 0, 0, 0), (258, .iconst 4, 1, 0, 0, 0), (259, .idiv, 1, 0, 0, 0), (260, .goto 5, 3, 0, 0, 0), (263, .iload 8, 2, 0, 0, 0), (265, .imul, 1, 0, 0, 0), (266, .bipush 100, 2, 0, 0, 0), (268, .idiv, 1, 0, 0, 0), (269, .iastore, 1, 0, 0, 0), (270, .iinc 7 1, 3, 0, 0, 0)],
  [(273, .goto (-74), 3, 0, 0, 0), (276, .iconst 0, 1, 0, 0, 0), (277, .istore 7, 2, 0, 0, 0), (279, .iload 7, 2, 0, 0, 0), (281, .iconst 1, 1, 0, 0, 0), (282, .iadd, 1, 0, 0, 0), (283, .iload_n 3, 1, 0, 0, 0), (284, .if_icmp .ge 45, 3, 0, 0, 0), (287, .aload_n 0, 1, 0, 0, 0)],
  [(288, .getfield 41, 3, 12, 18, 3), (291, .iload 7, 2, 0, 0, 0), (293, .dup2, 1, 0, 0, 0), (294, .iaload, 1, 0, 0, 0), (295, .aload_n 0, 1, 0, 0, 0), (296, .getfield 44, 3, 12, 19, 3), (299, .iload 7, 2, 0, 0, 0), (301, .iaload, 1, 0, 0, 0), (302, .isub, 1, 0, 0, 0), (303, .iastore, 1, 0, 0, 0)],
  [(304, .aload_n 0, 1, 0, 0, 0), (305, .getfield 41, 3, 12, 18, 3), (308, .iload 7, 2, 0, 0, 0), (310, .iconst 1, 1, 0, 0, 0), (311, .iadd, 1, 0, 0, 0), (312, .dup2, 1, 0, 0, 0), (313, .iaload, 1, 0, 0, 0), (314, .aload_n 0, 1, 0, 0, 0), (315, .getfield 44, 3, 12, 19, 3), (318, .iload 7, 2, 0, 0, 0)],
  [(320, .iaload, 1, 0, 0, 0), (321, .iadd, 1, 0, 0, 0), (322, .iastore, 1, 0, 0, 0), (323, .iinc 7 1, 3, 0, 0, 0), (326, .goto (-47), 3, 0, 0, 0), (329, .iconst 0, 1, 0, 0, 0), (330, .istore 7, 2, 0, 0, 0), (332, .iload 7, 2, 0, 0, 0), (334, .aload_n 0, 1, 0, 0, 0), (335, .getfield 7, 3, 12, 0, 3)],
  [(338, .bipush 11, 2, 0, 0, 0), (340, .iaload, 1, 0, 0, 0), (341, .if_icmp .ge 42, 3, 0, 0, 0), (344, .aload_n 0, 1, 0, 0, 0), (345, .getfield 41, 3, 12, 18, 3), (348, .aload_n 0, 1, 0, 0, 0), (349, .iload_n 1, 1, 0, 0, 0), (350, .iload 7, 2, 0, 0, 0)],
  [(352, .iload 5, 2, 0, 0, 0), (354, .invokevirtual 267, 3, 92, 3, 0), (357, .dup2, 1, 0, 0, 0), (358, .iaload, 1, 0, 0, 0), (359, .aload_n 0, 1, 0, 0, 0), (360, .getfield 7, 3, 12, 0, 3), (363, .sipush 160, 3, 0, 0, 0), (366, .bipush 6, 2, 0, 0, 0)],
  [(368, .iload 7, 2, 0, 0, 0), (370, .imul, 1, 0, 0, 0), (371, .iadd, 1, 0, 0, 0), (372, .iconst 1, 1, 0, 0, 0), (373, .iadd, 1, 0, 0, 0), (374, .iaload, 1, 0, 0, 0), (375, .iadd, 1, 0, 0, 0), (376, .iastore, 1, 0, 0, 0), (377, .iinc 7 1, 3, 0, 0, 0), (380, .goto (-48), 3, 0, 0, 0), (383, .iconst 0, 1, 0, 0, 0)],
  [(384, .istore 7, 2, 0, 0, 0), (386, .iload 7, 2, 0, 0, 0), (388, .iload_n 3, 1, 0, 0, 0), (389, .if_icmp .ge 71, 3, 0, 0, 0), (392, .aload_n 0, 1, 0, 0, 0), (393, .getfield 41, 3, 12, 18, 3), (396, .iload 7, 2, 0, 0, 0), (398, .dup2, 1, 0, 0, 0), (399, .iaload, 1, 0, 0, 0)],
  [(400, .aload_n 0, 1, 0, 0, 0), (401, .getfield 41, 3, 12, 18, 3), (404, .iload 7, 2, 0, 0, 0), (406, .iaload, 1, 0, 0, 0), (407, .aload_n 0, 1, 0, 0, 0), (408, .getfield 7, 3, 12, 0, 3), (411, .bipush 60, 2, 0, 0, 0), (413, .iconst 4, 1, 0, 0, 0), (414, .iload 5, 2, 0, 0, 0)],
  [(416, .imul, 1, 0, 0, 0), (417, .iadd, 1, 0, 0, 0), (418, .iaload, 1, 0, 0, 0), (419, .isub, 1, 0, 0, 0), (420, .aload_n 0, 1, 0, 0, 0), (421, .iload 7, 2, 0, 0, 0), (423, .iload 5, 2, 0, 0, 0), (425, .invokevirtual 270, 3, 93, 2, 0), (428, .imul, 1, 0, 0, 0), (429, .bipush 100, 2, 0, 0, 0), (431, .idiv, 1, 0, 0, 0)],
  [(432, .isub, 1, 0, 0, 0), (433, .iastore, 1, 0, 0, 0), (434, .aload_n 0, 1, 0, 0, 0), (435, .getfield 32, 3, 12, 15, 3), (438, .bipush 8, 2, 0, 0, 0), (440, .iload 5, 2, 0, 0, 0), (442, .imul, 1, 0, 0, 0), (443, .iload 7, 2, 0, 0, 0), (445, .iadd, 1, 0, 0, 0), (446, .aload_n 0, 1, 0, 0, 0), (447, .getfield 41, 3, 12, 18, 3)],
  [(450, .iload 7, 2, 0, 0, 0), (452, .iaload, 1, 0, 0, 0), (453, .iastore, 1, 0, 0, 0), (454, .iinc 7 1, 3, 0, 0, 0), (457, .goto (-71), 3, 0, 0, 0), (460, .iinc 5 1, 3, 0, 0, 0), (463, .goto (-411), 3, 0, 0, 0)],
  [(466, .return_, 1, 0, 0, 0)]]
/-- WarmNightModel.feelsIn -/
def et_166 : List (List ex_I) := [[(0, .aload_n 0, 1, 0, 0, 0), (1, .getfield 32, 3, 12, 15, 3), (4, .bipush 8, 2, 0, 0, 0), (6, .iload_n 3, 1, 0, 0, 0), (7, .imul, 1, 0, 0, 0), (8, .iload_n 1, 1, 0, 0, 0), (9, .iadd, 1, 0, 0, 0), (10, .iaload, 1, 0, 0, 0), (11, .iload 4, 2, 0, 0, 0), (13, .ifCond .eq 13, 3, 0, 0, 0)],
  [(16, .aload_n 0, 1, 0, 0, 0), (17, .getfield 7, 3, 12, 0, 3), (20, .bipush 6, 2, 0, 0, 0), (22, .iaload, 1, 0, 0, 0), (23, .goto 4, 3, 0, 0, 0), (26, .iconst 0, 1, 0, 0, 0), (27, .iadd, 1, 0, 0, 0), (28, .aload_n 0, 1, 0, 0, 0), (29, .getfield 7, 3, 12, 0, 3)],
  [(32, .sipush 160, 3, 0, 0, 0), (35, .bipush 6, 2, 0, 0, 0), (37, .iload_n 2, 1, 0, 0, 0), (38, .imul, 1, 0, 0, 0), (39, .iadd, 1, 0, 0, 0), (40, .iconst 4, 1, 0, 0, 0), (41, .iadd, 1, 0, 0, 0), (42, .iaload, 1, 0, 0, 0), (43, .isub, 1, 0, 0, 0), (44, .ireturn, 1, 0, 0, 0)]]
/-- WarmNightModel.told -/
def et_167 : List (List ex_I) := [[(0, .iconst 0, 1, 0, 0, 0), (1, .istore_n 1, 1, 0, 0, 0), (2, .iconst 0, 1, 0, 0, 0), (3, .istore_n 2, 1, 0, 0, 0), (4, .iload_n 2, 1, 0, 0, 0), (5, .aload_n 0, 1, 0, 0, 0), (6, .getfield 7, 3, 12, 0, 3), (9, .bipush 11, 2, 0, 0, 0), (11, .iaload, 1, 0, 0, 0), (12, .if_icmp .ge 38, 3, 0, 0, 0), (15, .iload_n 1, 1, 0, 0, 0)],
  [(16, .aload_n 0, 1, 0, 0, 0), (17, .getfield 7, 3, 12, 0, 3), (20, .sipush 160, 3, 0, 0, 0), (23, .bipush 6, 2, 0, 0, 0), (25, .iload_n 2, 1, 0, 0, 0), (26, .imul, 1, 0, 0, 0), (27, .iadd, 1, 0, 0, 0), (28, .iconst 5, 1, 0, 0, 0), (29, .iadd, 1, 0, 0, 0), (30, .iaload, 1, 0, 0, 0), (31, .iconst 1, 1, 0, 0, 0)],
  [(32, .if_icmp .ne 9, 3, 0, 0, 0), (35, .iconst 1, 1, 0, 0, 0), (36, .iload_n 2, 1, 0, 0, 0), (37, .ishl, 1, 0, 0, 0), (38, .goto 4, 3, 0, 0, 0), (41, .iconst 0, 1, 0, 0, 0), (42, .ior, 1, 0, 0, 0), (43, .istore_n 1, 1, 0, 0, 0), (44, .iinc 2 1, 3, 0, 0, 0), (47, .goto (-43), 3, 0, 0, 0)],
  [(50, .iload_n 1, 1, 0, 0, 0), (51, .ireturn, 1, 0, 0, 0)]]
/-- WarmNightModel.judges -/
def et_168 : List (List ex_I) := [[(0, .aload_n 0, 1, 0, 0, 0), (1, .aload_n 0, 1, 0, 0, 0), (2, .getfield 7, 3, 12, 0, 3), (5, .bipush 11, 2, 0, 0, 0), (7, .iaload, 1, 0, 0, 0), (8, .ifCond .ne 9, 3, 0, 0, 0), (11, .sipush 1000, 3, 0, 0, 0), (14, .goto 6, 3, 0, 0, 0)],
  [(17, .ldc_w 273, 3, 0, 0, 1000000), (20, .putfield 274, 3, 12, 20, 0), (23, .aload_n 0, 1, 0, 0, 0), (24, .bipush 100, 2, 0, 0, 0), (26, .putfield 277, 3, 12, 21, 0), (29, .aload_n 0, 1, 0, 0, 0), (30, .iconst (-1), 1, 0, 0, 0), (31, .putfield 280, 3, 12, 22, 0)],
  [(34, .iconst 0, 1, 0, 0, 0), (35, .istore_n 3, 1, 0, 0, 0), (36, .iload_n 3, 1, 0, 0, 0), (37, .aload_n 0, 1, 0, 0, 0), (38, .getfield 7, 3, 12, 0, 3), (41, .bipush 11, 2, 0, 0, 0), (43, .iaload, 1, 0, 0, 0), (44, .if_icmp .ge 160, 3, 0, 0, 0), (47, .iconst 0, 1, 0, 0, 0)],
  [(48, .istore 4, 2, 0, 0, 0), (50, .iload_n 2, 1, 0, 0, 0), (51, .iload_n 3, 1, 0, 0, 0), (52, .ishr, 1, 0, 0, 0), (53, .iconst 1, 1, 0, 0, 0), (54, .iand, 1, 0, 0, 0), (55, .iconst 1, 1, 0, 0, 0), (56, .if_icmp .ne 7, 3, 0, 0, 0), (59, .iconst 1, 1, 0, 0, 0), (60, .goto 4, 3, 0, 0, 0), (63, .iconst 0, 1, 0, 0, 0)],
  [(64, .istore 5, 2, 0, 0, 0), (66, .iconst 0, 1, 0, 0, 0), (67, .istore 6, 2, 0, 0, 0), (69, .iload 6, 2, 0, 0, 0), (71, .aload_n 0, 1, 0, 0, 0), (72, .getfield 7, 3, 12, 0, 3), (75, .iconst 3, 1, 0, 0, 0), (76, .iaload, 1, 0, 0, 0), (77, .if_icmp .ge 121, 3, 0, 0, 0)],
  [(80, .aload_n 0, 1, 0, 0, 0), (81, .aload_n 0, 1, 0, 0, 0), (82, .iload_n 1, 1, 0, 0, 0), (83, .iload_n 3, 1, 0, 0, 0), (84, .iload 6, 2, 0, 0, 0), (86, .invokevirtual 267, 3, 92, 3, 0), (89, .iload_n 3, 1, 0, 0, 0), (90, .iload 6, 2, 0, 0, 0), (92, .iload 5, 2, 0, 0, 0), (94, .invokevirtual 283, 3, 94, 4, 0)],
  [(97, .aload_n 0, 1, 0, 0, 0), (98, .getfield 7, 3, 12, 0, 3), (101, .sipush 160, 3, 0, 0, 0), (104, .bipush 6, 2, 0, 0, 0), (106, .iload_n 3, 1, 0, 0, 0), (107, .imul, 1, 0, 0, 0), (108, .iadd, 1, 0, 0, 0), (109, .iconst 2, 1, 0, 0, 0), (110, .iadd, 1, 0, 0, 0), (111, .iaload, 1, 0, 0, 0)],
  [(112, .isub, 1, 0, 0, 0), (113, .istore 7, 2, 0, 0, 0), (115, .aload_n 0, 1, 0, 0, 0), (116, .iload 7, 2, 0, 0, 0), (118, .aload_n 0, 1, 0, 0, 0), (119, .getfield 274, 3, 12, 20, 0), (122, .if_icmp .ge 8, 3, 0, 0, 0), (125, .iload 7, 2, 0, 0, 0), (127, .goto 7, 3, 0, 0, 0)],
  [(130, .aload_n 0, 1, 0, 0, 0), (131, .getfield 274, 3, 12, 20, 0), (134, .putfield 274, 3, 12, 20, 0), (137, .iload 7, 2, 0, 0, 0), (139, .ifCond .ge 10, 3, 0, 0, 0), (142, .iload 4, 2, 0, 0, 0)],
  [(144, .iconst 1, 1, 0, 0, 0), (145, .iadd, 1, 0, 0, 0), (146, .goto 4, 3, 0, 0, 0), (149, .iconst 0, 1, 0, 0, 0), (150, .istore 4, 2, 0, 0, 0), (152, .iload 4, 2, 0, 0, 0), (154, .aload_n 0, 1, 0, 0, 0), (155, .getfield 7, 3, 12, 0, 3), (158, .sipush 160, 3, 0, 0, 0)],
  [(161, .bipush 6, 2, 0, 0, 0), (163, .iload_n 3, 1, 0, 0, 0), (164, .imul, 1, 0, 0, 0), (165, .iadd, 1, 0, 0, 0), (166, .iconst 3, 1, 0, 0, 0), (167, .iadd, 1, 0, 0, 0), (168, .iaload, 1, 0, 0, 0), (169, .if_icmp .le 23, 3, 0, 0, 0), (172, .iload 6, 2, 0, 0, 0), (174, .aload_n 0, 1, 0, 0, 0), (175, .getfield 277, 3, 12, 21, 0)],
  [(178, .if_icmp .ge 14, 3, 0, 0, 0), (181, .aload_n 0, 1, 0, 0, 0), (182, .iload 6, 2, 0, 0, 0), (184, .putfield 277, 3, 12, 21, 0), (187, .aload_n 0, 1, 0, 0, 0), (188, .iload_n 3, 1, 0, 0, 0), (189, .putfield 280, 3, 12, 22, 0)],
  [(192, .iinc 6 1, 3, 0, 0, 0), (195, .goto (-126), 3, 0, 0, 0), (198, .iinc 3 1, 3, 0, 0, 0), (201, .goto (-165), 3, 0, 0, 0), (204, .return_, 1, 0, 0, 0)]]
/-- WarmNightModel.nights -/
def et_169 : List (List ex_I) := [[(0, .aload_n 0, 1, 0, 0, 0), (1, .iload_n 1, 1, 0, 0, 0), (2, .iload_n 2, 1, 0, 0, 0), (3, .invokevirtual 287, 3, 95, 2, 0), (6, .aload_n 0, 1, 0, 0, 0), (7, .iload_n 1, 1, 0, 0, 0), (8, .aload_n 0, 1, 0, 0, 0), (9, .invokevirtual 291, 3, 96, 0, 0), (12, .invokevirtual 294, 3, 97, 2, 0), (15, .return_, 1, 0, 0, 0)]]
/-- WarmNightModel.isRule -/
def et_170 : List (List ex_I) := [[(0, .iload_n 0, 1, 0, 0, 0), (1, .i2l, 1, 0, 0, 0), (2, .lconst 0, 1, 0, 0, 0), (3, .ldc2_w 297, 3, 0, 0, 5), (6, .invokestatic 95, 3, 126, 3, 0), (9, .ifCond .eq 19, 3, 0, 0, 0), (12, .iload_n 1, 1, 0, 0, 0), (13, .i2l, 1, 0, 0, 0), (14, .lconst 0, 1, 0, 0, 0), (15, .ldc2_w 140, 3, 0, 0, 9)],
  [(18, .invokestatic 95, 3, 126, 3, 0), (21, .ifCond .eq 7, 3, 0, 0, 0), (24, .iconst 1, 1, 0, 0, 0), (25, .goto 4, 3, 0, 0, 0), (28, .iconst 0, 1, 0, 0, 0), (29, .ireturn, 1, 0, 0, 0)]]
/-- WarmNightModel.isIn -/
def et_171 : List (List ex_I) := [[(0, .iload_n 1, 1, 0, 0, 0), (1, .i2l, 1, 0, 0, 0), (2, .lconst 0, 1, 0, 0, 0), (3, .aload_n 0, 1, 0, 0, 0), (4, .getfield 7, 3, 12, 0, 3), (7, .iconst 3, 1, 0, 0, 0), (8, .iaload, 1, 0, 0, 0), (9, .iconst 1, 1, 0, 0, 0), (10, .isub, 1, 0, 0, 0), (11, .i2l, 1, 0, 0, 0), (12, .invokestatic 95, 3, 126, 3, 0), (15, .ireturn, 1, 0, 0, 0)]]
/-- WarmNightModel.warmth -/
def et_172 : List (List ex_I) := [[(0, .iload_n 1, 1, 0, 0, 0), (1, .iload_n 2, 1, 0, 0, 0), (2, .invokestatic 299, 3, 170, 2, 0), (5, .ifCond .eq 30, 3, 0, 0, 0), (8, .aload_n 0, 1, 0, 0, 0), (9, .iload_n 3, 1, 0, 0, 0), (10, .invokevirtual 302, 3, 98, 1, 0), (13, .ifCond .eq 22, 3, 0, 0, 0)],
  [(16, .iload 4, 2, 0, 0, 0), (18, .i2l, 1, 0, 0, 0), (19, .lconst 0, 1, 0, 0, 0), (20, .aload_n 0, 1, 0, 0, 0), (21, .getfield 7, 3, 12, 0, 3), (24, .iconst 0, 1, 0, 0, 0), (25, .iaload, 1, 0, 0, 0), (26, .iconst 1, 1, 0, 0, 0), (27, .isub, 1, 0, 0, 0), (28, .i2l, 1, 0, 0, 0), (29, .invokestatic 95, 3, 126, 3, 0)],
  [(32, .ifCond .ne 6, 3, 0, 0, 0), (35, .ldc 103, 2, 0, 0, (-100000)), (37, .ireturn, 1, 0, 0, 0), (38, .aload_n 0, 1, 0, 0, 0), (39, .iload_n 1, 1, 0, 0, 0), (40, .iload_n 2, 1, 0, 0, 0), (41, .invokevirtual 287, 3, 95, 2, 0), (44, .aload_n 0, 1, 0, 0, 0), (45, .getfield 32, 3, 12, 15, 3)],
  [(48, .bipush 8, 2, 0, 0, 0), (50, .iload_n 3, 1, 0, 0, 0), (51, .imul, 1, 0, 0, 0), (52, .iload 4, 2, 0, 0, 0), (54, .iadd, 1, 0, 0, 0), (55, .iaload, 1, 0, 0, 0), (56, .ireturn, 1, 0, 0, 0)]]
/-- WarmNightModel.feels -/
def et_173 : List (List ex_I) := [[(0, .iload_n 1, 1, 0, 0, 0), (1, .iload_n 2, 1, 0, 0, 0), (2, .invokestatic 299, 3, 170, 2, 0), (5, .ifCond .eq 20, 3, 0, 0, 0), (8, .aload_n 0, 1, 0, 0, 0), (9, .iload_n 3, 1, 0, 0, 0), (10, .invokevirtual 302, 3, 98, 1, 0), (13, .ifCond .eq 12, 3, 0, 0, 0)],
  [(16, .aload_n 0, 1, 0, 0, 0), (17, .iload 4, 2, 0, 0, 0), (19, .invokevirtual 147, 3, 72, 1, 0), (22, .ifCond .ne 6, 3, 0, 0, 0), (25, .ldc 103, 2, 0, 0, (-100000)), (27, .ireturn, 1, 0, 0, 0), (28, .aload_n 0, 1, 0, 0, 0), (29, .iload_n 1, 1, 0, 0, 0), (30, .iload_n 2, 1, 0, 0, 0), (31, .invokevirtual 287, 3, 95, 2, 0)],
  [(34, .aload_n 0, 1, 0, 0, 0), (35, .aload_n 0, 1, 0, 0, 0), (36, .iload_n 1, 1, 0, 0, 0), (37, .iload 4, 2, 0, 0, 0), (39, .iload_n 3, 1, 0, 0, 0), (40, .invokevirtual 267, 3, 92, 3, 0), (43, .iload 4, 2, 0, 0, 0), (45, .iload_n 3, 1, 0, 0, 0), (46, .aload_n 0, 1, 0, 0, 0), (47, .getfield 7, 3, 12, 0, 3)],
  [(50, .sipush 160, 3, 0, 0, 0), (53, .bipush 6, 2, 0, 0, 0), (55, .iload 4, 2, 0, 0, 0), (57, .imul, 1, 0, 0, 0), (58, .iadd, 1, 0, 0, 0), (59, .iconst 5, 1, 0, 0, 0), (60, .iadd, 1, 0, 0, 0), (61, .iaload, 1, 0, 0, 0), (62, .iconst 1, 1, 0, 0, 0), (63, .if_icmp .ne 7, 3, 0, 0, 0)],
  [(66, .iconst 1, 1, 0, 0, 0), (67, .goto 4, 3, 0, 0, 0), (70, .iconst 0, 1, 0, 0, 0), (71, .invokevirtual 283, 3, 94, 4, 0), (74, .ireturn, 1, 0, 0, 0)]]
/-- WarmNightModel.fuel -/
def et_174 : List (List ex_I) := [[(0, .iload_n 1, 1, 0, 0, 0), (1, .iload_n 2, 1, 0, 0, 0), (2, .invokestatic 299, 3, 170, 2, 0), (5, .ifCond .eq 22, 3, 0, 0, 0), (8, .aload_n 0, 1, 0, 0, 0), (9, .iload_n 3, 1, 0, 0, 0), (10, .invokevirtual 302, 3, 98, 1, 0), (13, .ifCond .eq 14, 3, 0, 0, 0)],
  [(16, .iload 4, 2, 0, 0, 0), (18, .i2l, 1, 0, 0, 0), (19, .lconst 0, 1, 0, 0, 0), (20, .lconst 1, 1, 0, 0, 0), (21, .invokestatic 95, 3, 126, 3, 0), (24, .ifCond .ne 6, 3, 0, 0, 0), (27, .ldc 103, 2, 0, 0, (-100000)), (29, .ireturn, 1, 0, 0, 0), (30, .aload_n 0, 1, 0, 0, 0), (31, .iload_n 1, 1, 0, 0, 0)],
  [(32, .iload_n 2, 1, 0, 0, 0), (33, .invokevirtual 287, 3, 95, 2, 0), (36, .iload 4, 2, 0, 0, 0), (38, .ifCond .ne 12, 3, 0, 0, 0), (41, .aload_n 0, 1, 0, 0, 0), (42, .getfield 35, 3, 12, 16, 3), (45, .iload_n 3, 1, 0, 0, 0), (46, .iaload, 1, 0, 0, 0), (47, .goto 9, 3, 0, 0, 0)],
  [(50, .aload_n 0, 1, 0, 0, 0), (51, .getfield 38, 3, 12, 17, 3), (54, .iload_n 3, 1, 0, 0, 0), (55, .iaload, 1, 0, 0, 0), (56, .ireturn, 1, 0, 0, 0)]]
/-- WarmNightModel.worst -/
def et_175 : List (List ex_I) := [[(0, .iload_n 1, 1, 0, 0, 0), (1, .iload_n 2, 1, 0, 0, 0), (2, .invokestatic 299, 3, 170, 2, 0), (5, .ifCond .ne 6, 3, 0, 0, 0), (8, .ldc 103, 2, 0, 0, (-100000)), (10, .ireturn, 1, 0, 0, 0), (11, .aload_n 0, 1, 0, 0, 0), (12, .iload_n 1, 1, 0, 0, 0), (13, .iload_n 2, 1, 0, 0, 0), (14, .invokevirtual 305, 3, 99, 2, 0)],
  [(17, .aload_n 0, 1, 0, 0, 0), (18, .getfield 274, 3, 12, 20, 0), (21, .ireturn, 1, 0, 0, 0)]]
/-- WarmNightModel.falls -/
def et_176 : List (List ex_I) := [[(0, .iload_n 1, 1, 0, 0, 0), (1, .iload_n 2, 1, 0, 0, 0), (2, .invokestatic 299, 3, 170, 2, 0), (5, .ifCond .eq 13, 3, 0, 0, 0), (8, .iload_n 3, 1, 0, 0, 0), (9, .i2l, 1, 0, 0, 0), (10, .lconst 0, 1, 0, 0, 0), (11, .lconst 1, 1, 0, 0, 0), (12, .invokestatic 95, 3, 126, 3, 0), (15, .ifCond .ne 6, 3, 0, 0, 0)],
  [(18, .ldc 103, 2, 0, 0, (-100000)), (20, .ireturn, 1, 0, 0, 0), (21, .aload_n 0, 1, 0, 0, 0), (22, .iload_n 1, 1, 0, 0, 0), (23, .iload_n 2, 1, 0, 0, 0), (24, .invokevirtual 305, 3, 99, 2, 0), (27, .iload_n 3, 1, 0, 0, 0), (28, .iconst 1, 1, 0, 0, 0), (29, .if_icmp .ne 10, 3, 0, 0, 0)],
  [(32, .aload_n 0, 1, 0, 0, 0), (33, .getfield 280, 3, 12, 22, 0), (36, .goto 20, 3, 0, 0, 0), (39, .aload_n 0, 1, 0, 0, 0), (40, .getfield 277, 3, 12, 21, 0), (43, .bipush 100, 2, 0, 0, 0), (45, .if_icmp .ne 7, 3, 0, 0, 0)],
  [(48, .iconst (-1), 1, 0, 0, 0), (49, .goto 7, 3, 0, 0, 0), (52, .aload_n 0, 1, 0, 0, 0), (53, .getfield 277, 3, 12, 21, 0), (56, .ireturn, 1, 0, 0, 0)]]
/-- WarmNightModel.fair -/
def et_177 : List (List ex_I) := [[(0, .iload_n 1, 1, 0, 0, 0), (1, .iload_n 2, 1, 0, 0, 0), (2, .invokestatic 299, 3, 170, 2, 0), (5, .ifCond .ne 6, 3, 0, 0, 0), (8, .ldc 103, 2, 0, 0, (-100000)), (10, .ireturn, 1, 0, 0, 0), (11, .aload_n 0, 1, 0, 0, 0), (12, .iload_n 1, 1, 0, 0, 0), (13, .iload_n 2, 1, 0, 0, 0), (14, .invokevirtual 287, 3, 95, 2, 0)],
  [(17, .ldc_w 308, 3, 0, 0, (-1000000)), (20, .istore_n 3, 1, 0, 0, 0), (21, .ldc_w 273, 3, 0, 0, 1000000), (24, .istore 4, 2, 0, 0, 0), (26, .iconst 0, 1, 0, 0, 0), (27, .istore 5, 2, 0, 0, 0), (29, .iload 5, 2, 0, 0, 0), (31, .aload_n 0, 1, 0, 0, 0)],
  [(32, .getfield 7, 3, 12, 0, 3), (35, .bipush 11, 2, 0, 0, 0), (37, .iaload, 1, 0, 0, 0), (38, .if_icmp .ge 123, 3, 0, 0, 0), (41, .ldc_w 273, 3, 0, 0, 1000000), (44, .istore 6, 2, 0, 0, 0), (46, .iconst 0, 1, 0, 0, 0), (47, .istore 7, 2, 0, 0, 0)],
  [(49, .iload 7, 2, 0, 0, 0), (51, .aload_n 0, 1, 0, 0, 0), (52, .getfield 7, 3, 12, 0, 3), (55, .iconst 3, 1, 0, 0, 0), (56, .iaload, 1, 0, 0, 0), (57, .if_icmp .ge 69, 3, 0, 0, 0), (60, .aload_n 0, 1, 0, 0, 0), (61, .aload_n 0, 1, 0, 0, 0), (62, .iload_n 1, 1, 0, 0, 0), (63, .iload 5, 2, 0, 0, 0)],
  [(65, .iload 7, 2, 0, 0, 0), (67, .invokevirtual 267, 3, 92, 3, 0), (70, .iload 5, 2, 0, 0, 0), (72, .iload 7, 2, 0, 0, 0), (74, .aload_n 0, 1, 0, 0, 0), (75, .getfield 7, 3, 12, 0, 3), (78, .sipush 160, 3, 0, 0, 0)],
  [(81, .bipush 6, 2, 0, 0, 0), (83, .iload 5, 2, 0, 0, 0), (85, .imul, 1, 0, 0, 0), (86, .iadd, 1, 0, 0, 0), (87, .iconst 5, 1, 0, 0, 0), (88, .iadd, 1, 0, 0, 0), (89, .iaload, 1, 0, 0, 0), (90, .iconst 1, 1, 0, 0, 0), (91, .if_icmp .ne 7, 3, 0, 0, 0), (94, .iconst 1, 1, 0, 0, 0), (95, .goto 4, 3, 0, 0, 0)],
  [(98, .iconst 0, 1, 0, 0, 0), (99, .invokevirtual 283, 3, 94, 4, 0), (102, .istore 8, 2, 0, 0, 0), (104, .iload 8, 2, 0, 0, 0), (106, .iload 6, 2, 0, 0, 0), (108, .if_icmp .ge 8, 3, 0, 0, 0), (111, .iload 8, 2, 0, 0, 0)],
  [(113, .goto 5, 3, 0, 0, 0), (116, .iload 6, 2, 0, 0, 0), (118, .istore 6, 2, 0, 0, 0), (120, .iinc 7 1, 3, 0, 0, 0), (123, .goto (-74), 3, 0, 0, 0), (126, .iload 6, 2, 0, 0, 0)],
  [(128, .iload_n 3, 1, 0, 0, 0), (129, .if_icmp .le 8, 3, 0, 0, 0), (132, .iload 6, 2, 0, 0, 0), (134, .goto 4, 3, 0, 0, 0), (137, .iload_n 3, 1, 0, 0, 0), (138, .istore_n 3, 1, 0, 0, 0), (139, .iload 6, 2, 0, 0, 0), (141, .iload 4, 2, 0, 0, 0), (143, .if_icmp .ge 8, 3, 0, 0, 0)],
  [(146, .iload 6, 2, 0, 0, 0), (148, .goto 5, 3, 0, 0, 0), (151, .iload 4, 2, 0, 0, 0), (153, .istore 4, 2, 0, 0, 0), (155, .iinc 5 1, 3, 0, 0, 0), (158, .goto (-129), 3, 0, 0, 0)],
  [(161, .aload_n 0, 1, 0, 0, 0), (162, .getfield 7, 3, 12, 0, 3), (165, .bipush 11, 2, 0, 0, 0), (167, .iaload, 1, 0, 0, 0), (168, .ifCond .ne 7, 3, 0, 0, 0), (171, .iconst 0, 1, 0, 0, 0), (172, .goto 7, 3, 0, 0, 0), (175, .iload_n 3, 1, 0, 0, 0)],
  [(176, .iload 4, 2, 0, 0, 0), (178, .isub, 1, 0, 0, 0), (179, .ireturn, 1, 0, 0, 0)]]
/-- WarmNightModel.findBest -/
def et_178 : List (List ex_I) := [[(0, .aload_n 0, 1, 0, 0, 0), (1, .getfield 7, 3, 12, 0, 3), (4, .iconst 3, 1, 0, 0, 0), (5, .iaload, 1, 0, 0, 0), (6, .istore_n 1, 1, 0, 0, 0), (7, .iload_n 1, 1, 0, 0, 0), (8, .bipush 8, 2, 0, 0, 0), (10, .if_icmp .le 5, 3, 0, 0, 0), (13, .iconst 0, 1, 0, 0, 0), (14, .ireturn, 1, 0, 0, 0), (15, .iconst 1, 1, 0, 0, 0)],
  [(16, .istore_n 2, 1, 0, 0, 0), (17, .iconst 0, 1, 0, 0, 0), (18, .istore_n 3, 1, 0, 0, 0), (19, .iload_n 3, 1, 0, 0, 0), (20, .iload_n 1, 1, 0, 0, 0), (21, .if_icmp .ge 32, 3, 0, 0, 0), (24, .iload_n 2, 1, 0, 0, 0), (25, .iconst 3, 1, 0, 0, 0), (26, .imul, 1, 0, 0, 0), (27, .istore_n 2, 1, 0, 0, 0), (28, .aload_n 0, 1, 0, 0, 0), (29, .getfield 50, 3, 12, 25, 3)],
  [(32, .iload_n 3, 1, 0, 0, 0), (33, .aload_n 0, 1, 0, 0, 0), (34, .getfield 7, 3, 12, 0, 3), (37, .bipush 60, 2, 0, 0, 0), (39, .iconst 4, 1, 0, 0, 0), (40, .iload_n 3, 1, 0, 0, 0), (41, .imul, 1, 0, 0, 0), (42, .iadd, 1, 0, 0, 0), (43, .iconst 2, 1, 0, 0, 0), (44, .iadd, 1, 0, 0, 0), (45, .iaload, 1, 0, 0, 0), (46, .iastore, 1, 0, 0, 0), (47, .iinc 3 1, 3, 0, 0, 0)],
  [(50, .goto (-31), 3, 0, 0, 0), (53, .iconst (-1), 1, 0, 0, 0), (54, .istore_n 3, 1, 0, 0, 0), (55, .iconst 0, 1, 0, 0, 0), (56, .istore 4, 2, 0, 0, 0), (58, .iconst 0, 1, 0, 0, 0), (59, .istore 5, 2, 0, 0, 0), (61, .iload 5, 2, 0, 0, 0), (63, .iload_n 2, 1, 0, 0, 0)],
  [(64, .if_icmp .ge 248, 3, 0, 0, 0), (67, .iload 5, 2, 0, 0, 0), (69, .istore 6, 2, 0, 0, 0), (71, .iconst 0, 1, 0, 0, 0), (72, .istore 7, 2, 0, 0, 0), (74, .iload_n 1, 1, 0, 0, 0), (75, .iconst 1, 1, 0, 0, 0), (76, .isub, 1, 0, 0, 0), (77, .istore 8, 2, 0, 0, 0), (79, .iload 8, 2, 0, 0, 0)],
  [(81, .ifCond .lt 42, 3, 0, 0, 0), (84, .aload_n 0, 1, 0, 0, 0), (85, .getfield 7, 3, 12, 0, 3), (88, .bipush 60, 2, 0, 0, 0), (90, .iconst 4, 1, 0, 0, 0), (91, .iload 8, 2, 0, 0, 0), (93, .imul, 1, 0, 0, 0), (94, .iadd, 1, 0, 0, 0), (95, .iconst 2, 1, 0, 0, 0)],
  [(96, .iadd, 1, 0, 0, 0), (97, .iload 6, 2, 0, 0, 0), (99, .iconst 3, 1, 0, 0, 0), (100, .irem, 1, 0, 0, 0), (101, .iastore, 1, 0, 0, 0), (102, .iload 7, 2, 0, 0, 0), (104, .iload 6, 2, 0, 0, 0), (106, .iconst 3, 1, 0, 0, 0), (107, .irem, 1, 0, 0, 0), (108, .iadd, 1, 0, 0, 0), (109, .istore 7, 2, 0, 0, 0), (111, .iload 6, 2, 0, 0, 0)],
  [(113, .iconst 3, 1, 0, 0, 0), (114, .idiv, 1, 0, 0, 0), (115, .istore 6, 2, 0, 0, 0), (117, .iinc 8 (-1), 3, 0, 0, 0), (120, .goto (-41), 3, 0, 0, 0), (123, .aload_n 0, 1, 0, 0, 0), (124, .iconst 5, 1, 0, 0, 0), (125, .iconst 0, 1, 0, 0, 0), (126, .invokevirtual 305, 3, 99, 2, 0)],
  [(129, .iconst 1, 1, 0, 0, 0), (130, .istore 8, 2, 0, 0, 0), (132, .iconst 0, 1, 0, 0, 0), (133, .istore 9, 2, 0, 0, 0), (135, .iload 9, 2, 0, 0, 0), (137, .iload_n 1, 1, 0, 0, 0), (138, .if_icmp .ge 45, 3, 0, 0, 0), (141, .iload 8, 2, 0, 0, 0), (143, .ifCond .eq 31, 3, 0, 0, 0)],
  [(146, .aload_n 0, 1, 0, 0, 0), (147, .getfield 35, 3, 12, 16, 3), (150, .iload 9, 2, 0, 0, 0), (152, .iaload, 1, 0, 0, 0), (153, .aload_n 0, 1, 0, 0, 0), (154, .getfield 7, 3, 12, 0, 3), (157, .bipush 60, 2, 0, 0, 0), (159, .iconst 4, 1, 0, 0, 0)],
  [(160, .iload 9, 2, 0, 0, 0), (162, .imul, 1, 0, 0, 0), (163, .iadd, 1, 0, 0, 0), (164, .iconst 2, 1, 0, 0, 0), (165, .iadd, 1, 0, 0, 0), (166, .iaload, 1, 0, 0, 0), (167, .if_icmp .ne 7, 3, 0, 0, 0), (170, .iconst 1, 1, 0, 0, 0), (171, .goto 4, 3, 0, 0, 0), (174, .iconst 0, 1, 0, 0, 0), (175, .istore 8, 2, 0, 0, 0)],
  [(177, .iinc 9 1, 3, 0, 0, 0), (180, .goto (-45), 3, 0, 0, 0), (183, .aload_n 0, 1, 0, 0, 0), (184, .getfield 277, 3, 12, 21, 0), (187, .iload_n 3, 1, 0, 0, 0), (188, .if_icmp .ne 25, 3, 0, 0, 0), (191, .aload_n 0, 1, 0, 0, 0)],
  [(192, .getfield 274, 3, 12, 20, 0), (195, .aload_n 0, 1, 0, 0, 0), (196, .getfield 309, 3, 12, 24, 0), (199, .if_icmp .ne 14, 3, 0, 0, 0), (202, .iload 7, 2, 0, 0, 0), (204, .iload 4, 2, 0, 0, 0), (206, .if_icmp .ge 7, 3, 0, 0, 0)],
  [(209, .iconst 1, 1, 0, 0, 0), (210, .goto 4, 3, 0, 0, 0), (213, .iconst 0, 1, 0, 0, 0), (214, .istore 9, 2, 0, 0, 0), (216, .iload 8, 2, 0, 0, 0), (218, .ifCond .eq 88, 3, 0, 0, 0), (221, .aload_n 0, 1, 0, 0, 0), (222, .getfield 277, 3, 12, 21, 0)],
  [(225, .iload_n 3, 1, 0, 0, 0), (226, .if_icmp .gt 27, 3, 0, 0, 0), (229, .aload_n 0, 1, 0, 0, 0), (230, .getfield 277, 3, 12, 21, 0), (233, .iload_n 3, 1, 0, 0, 0), (234, .if_icmp .ne 14, 3, 0, 0, 0), (237, .aload_n 0, 1, 0, 0, 0), (238, .getfield 274, 3, 12, 20, 0)],
  [(241, .aload_n 0, 1, 0, 0, 0), (242, .getfield 309, 3, 12, 24, 0), (245, .if_icmp .gt 8, 3, 0, 0, 0), (248, .iload 9, 2, 0, 0, 0), (250, .ifCond .eq 56, 3, 0, 0, 0), (253, .aload_n 0, 1, 0, 0, 0), (254, .getfield 277, 3, 12, 21, 0)],
  [(257, .istore_n 3, 1, 0, 0, 0), (258, .aload_n 0, 1, 0, 0, 0), (259, .aload_n 0, 1, 0, 0, 0), (260, .getfield 274, 3, 12, 20, 0), (263, .putfield 309, 3, 12, 24, 0), (266, .iload 7, 2, 0, 0, 0), (268, .istore 4, 2, 0, 0, 0), (270, .iconst 0, 1, 0, 0, 0), (271, .istore 10, 2, 0, 0, 0)],
  [(273, .iload 10, 2, 0, 0, 0), (275, .iload_n 1, 1, 0, 0, 0), (276, .if_icmp .ge 30, 3, 0, 0, 0), (279, .aload_n 0, 1, 0, 0, 0), (280, .getfield 47, 3, 12, 23, 3), (283, .iload 10, 2, 0, 0, 0), (285, .aload_n 0, 1, 0, 0, 0), (286, .getfield 7, 3, 12, 0, 3)],
  [(289, .bipush 60, 2, 0, 0, 0), (291, .iconst 4, 1, 0, 0, 0), (292, .iload 10, 2, 0, 0, 0), (294, .imul, 1, 0, 0, 0), (295, .iadd, 1, 0, 0, 0), (296, .iconst 2, 1, 0, 0, 0), (297, .iadd, 1, 0, 0, 0), (298, .iaload, 1, 0, 0, 0), (299, .iastore, 1, 0, 0, 0), (300, .iinc 10 1, 3, 0, 0, 0), (303, .goto (-30), 3, 0, 0, 0)],
  [(306, .iinc 5 1, 3, 0, 0, 0), (309, .goto (-248), 3, 0, 0, 0), (312, .iconst 0, 1, 0, 0, 0), (313, .istore 5, 2, 0, 0, 0), (315, .iload 5, 2, 0, 0, 0), (317, .iload_n 1, 1, 0, 0, 0), (318, .if_icmp .ge 30, 3, 0, 0, 0)],
  [(321, .aload_n 0, 1, 0, 0, 0), (322, .getfield 7, 3, 12, 0, 3), (325, .bipush 60, 2, 0, 0, 0), (327, .iconst 4, 1, 0, 0, 0), (328, .iload 5, 2, 0, 0, 0), (330, .imul, 1, 0, 0, 0), (331, .iadd, 1, 0, 0, 0), (332, .iconst 2, 1, 0, 0, 0), (333, .iadd, 1, 0, 0, 0), (334, .aload_n 0, 1, 0, 0, 0), (335, .getfield 50, 3, 12, 25, 3)],
  [(338, .iload 5, 2, 0, 0, 0), (340, .iaload, 1, 0, 0, 0), (341, .iastore, 1, 0, 0, 0), (342, .iinc 5 1, 3, 0, 0, 0), (345, .goto (-30), 3, 0, 0, 0), (348, .iconst 1, 1, 0, 0, 0), (349, .ireturn, 1, 0, 0, 0)]]
/-- WarmNightModel.best -/
def et_179 : List (List ex_I) := [[(0, .iload_n 1, 1, 0, 0, 0), (1, .iconst (-1), 1, 0, 0, 0), (2, .if_icmp .eq 14, 3, 0, 0, 0), (5, .aload_n 0, 1, 0, 0, 0), (6, .iload_n 1, 1, 0, 0, 0), (7, .invokevirtual 302, 3, 98, 1, 0), (10, .ifCond .ne 6, 3, 0, 0, 0), (13, .ldc 103, 2, 0, 0, (-100000)), (15, .ireturn, 1, 0, 0, 0)],
  [(16, .aload_n 0, 1, 0, 0, 0), (17, .invokevirtual 312, 3, 100, 0, 0), (20, .ifCond .ne 8, 3, 0, 0, 0), (23, .ldc 88, 2, 0, 0, (-200000)), (25, .goto 21, 3, 0, 0, 0), (28, .iload_n 1, 1, 0, 0, 0), (29, .iconst (-1), 1, 0, 0, 0), (30, .if_icmp .ne 10, 3, 0, 0, 0)],
  [(33, .aload_n 0, 1, 0, 0, 0), (34, .getfield 309, 3, 12, 24, 0), (37, .goto 9, 3, 0, 0, 0), (40, .aload_n 0, 1, 0, 0, 0), (41, .getfield 47, 3, 12, 23, 3), (44, .iload_n 1, 1, 0, 0, 0), (45, .iaload, 1, 0, 0, 0), (46, .ireturn, 1, 0, 0, 0)]]
/-- WarmNightModel.take -/
def et_180 : List (List ex_I) := [[(0, .aload_n 0, 1, 0, 0, 0), (1, .invokevirtual 312, 3, 100, 0, 0), (4, .ifCond .ne 6, 3, 0, 0, 0), (7, .ldc 88, 2, 0, 0, (-200000)), (9, .ireturn, 1, 0, 0, 0), (10, .iconst 0, 1, 0, 0, 0), (11, .istore_n 1, 1, 0, 0, 0), (12, .iload_n 1, 1, 0, 0, 0), (13, .bipush 24, 2, 0, 0, 0), (15, .if_icmp .ge 42, 3, 0, 0, 0)],
  [(18, .aload_n 0, 1, 0, 0, 0), (19, .getfield 7, 3, 12, 0, 3), (22, .bipush 60, 2, 0, 0, 0), (24, .iconst 4, 1, 0, 0, 0), (25, .iload_n 1, 1, 0, 0, 0), (26, .imul, 1, 0, 0, 0), (27, .iadd, 1, 0, 0, 0), (28, .iconst 2, 1, 0, 0, 0), (29, .iadd, 1, 0, 0, 0), (30, .iload_n 1, 1, 0, 0, 0), (31, .aload_n 0, 1, 0, 0, 0)],
  [(32, .getfield 7, 3, 12, 0, 3), (35, .iconst 3, 1, 0, 0, 0), (36, .iaload, 1, 0, 0, 0), (37, .if_icmp .ge 12, 3, 0, 0, 0), (40, .aload_n 0, 1, 0, 0, 0), (41, .getfield 47, 3, 12, 23, 3), (44, .iload_n 1, 1, 0, 0, 0), (45, .iaload, 1, 0, 0, 0), (46, .goto 4, 3, 0, 0, 0)],
  [(49, .iconst 0, 1, 0, 0, 0), (50, .iastore, 1, 0, 0, 0), (51, .iinc 1 1, 3, 0, 0, 0), (54, .goto (-42), 3, 0, 0, 0), (57, .iconst 1, 1, 0, 0, 0), (58, .ireturn, 1, 0, 0, 0)]]
/-- WarmNightModel.isOk -/
def et_181 : List (List ex_I) := [[(0, .aload_n 0, 1, 0, 0, 0), (1, .getfield 53, 3, 12, 26, 3), (4, .bipush 8, 2, 0, 0, 0), (6, .iload_n 1, 1, 0, 0, 0), (7, .imul, 1, 0, 0, 0), (8, .iload_n 2, 1, 0, 0, 0), (9, .iadd, 1, 0, 0, 0), (10, .iaload, 1, 0, 0, 0), (11, .iload_n 3, 1, 0, 0, 0), (12, .if_icmp .lt 23, 3, 0, 0, 0), (15, .iload_n 1, 1, 0, 0, 0)],
  [(16, .iload 4, 2, 0, 0, 0), (18, .if_icmp .ge 13, 3, 0, 0, 0), (21, .aload_n 0, 1, 0, 0, 0), (22, .getfield 56, 3, 12, 27, 3), (25, .iload_n 1, 1, 0, 0, 0), (26, .iaload, 1, 0, 0, 0), (27, .iload_n 2, 1, 0, 0, 0), (28, .if_icmp .ne 7, 3, 0, 0, 0), (31, .iconst 1, 1, 0, 0, 0)],
  [(32, .goto 4, 3, 0, 0, 0), (35, .iconst 0, 1, 0, 0, 0), (36, .ireturn, 1, 0, 0, 0)]]
/-- WarmNightModel.places -/
def et_182 : List (List ex_I) := [[(0, .aload_n 0, 1, 0, 0, 0), (1, .getfield 7, 3, 12, 0, 3), (4, .iconst 0, 1, 0, 0, 0), (5, .iaload, 1, 0, 0, 0), (6, .istore 4, 2, 0, 0, 0), (8, .iconst 0, 1, 0, 0, 0), (9, .istore 5, 2, 0, 0, 0), (11, .iload 5, 2, 0, 0, 0), (13, .bipush 8, 2, 0, 0, 0), (15, .if_icmp .ge 43, 3, 0, 0, 0)],
  [(18, .aload_n 0, 1, 0, 0, 0), (19, .getfield 65, 3, 12, 30, 3), (22, .iload 5, 2, 0, 0, 0), (24, .iload 5, 2, 0, 0, 0), (26, .iload_n 1, 1, 0, 0, 0), (27, .if_icmp .ne 7, 3, 0, 0, 0), (30, .iconst 1, 1, 0, 0, 0), (31, .goto 4, 3, 0, 0, 0)],
  [(34, .iconst 0, 1, 0, 0, 0), (35, .bastore, 1, 0, 0, 0), (36, .aload_n 0, 1, 0, 0, 0), (37, .getfield 68, 3, 12, 31, 3), (40, .iload 5, 2, 0, 0, 0), (42, .iconst 0, 1, 0, 0, 0), (43, .bastore, 1, 0, 0, 0), (44, .aload_n 0, 1, 0, 0, 0), (45, .getfield 62, 3, 12, 29, 3)],
  [(48, .iload 5, 2, 0, 0, 0), (50, .iconst (-1), 1, 0, 0, 0), (51, .iastore, 1, 0, 0, 0), (52, .iinc 5 1, 3, 0, 0, 0), (55, .goto (-44), 3, 0, 0, 0), (58, .iconst 1, 1, 0, 0, 0), (59, .istore 5, 2, 0, 0, 0), (61, .iload 5, 2, 0, 0, 0), (63, .ifCond .eq 193, 3, 0, 0, 0)],
  [(66, .iconst 0, 1, 0, 0, 0), (67, .istore 5, 2, 0, 0, 0), (69, .iconst 0, 1, 0, 0, 0), (70, .istore 6, 2, 0, 0, 0), (72, .iload 6, 2, 0, 0, 0), (74, .aload_n 0, 1, 0, 0, 0), (75, .getfield 7, 3, 12, 0, 3), (78, .bipush 11, 2, 0, 0, 0)],
  [(80, .iaload, 1, 0, 0, 0), (81, .if_icmp .ge 172, 3, 0, 0, 0), (84, .iconst 0, 1, 0, 0, 0), (85, .istore 7, 2, 0, 0, 0), (87, .iload 7, 2, 0, 0, 0), (89, .iload 4, 2, 0, 0, 0), (91, .if_icmp .ge 156, 3, 0, 0, 0), (94, .aload_n 0, 1, 0, 0, 0), (95, .getfield 65, 3, 12, 30, 3)],
  [(98, .iload 6, 2, 0, 0, 0), (100, .baload, 1, 0, 0, 0), (101, .ifCond .eq 146, 3, 0, 0, 0), (104, .aload_n 0, 1, 0, 0, 0), (105, .getfield 68, 3, 12, 31, 3), (108, .iload 7, 2, 0, 0, 0), (110, .baload, 1, 0, 0, 0), (111, .ifCond .ne 130, 3, 0, 0, 0)],
  [(114, .aload_n 0, 1, 0, 0, 0), (115, .iload 6, 2, 0, 0, 0), (117, .iload 7, 2, 0, 0, 0), (119, .iload_n 2, 1, 0, 0, 0), (120, .iload_n 3, 1, 0, 0, 0), (121, .invokevirtual 315, 3, 101, 4, 0), (124, .ifCond .eq 117, 3, 0, 0, 0), (127, .aload_n 0, 1, 0, 0, 0)],
  [(128, .getfield 68, 3, 12, 31, 3), (131, .iload 7, 2, 0, 0, 0), (133, .iconst 1, 1, 0, 0, 0), (134, .bastore, 1, 0, 0, 0), (135, .aload_n 0, 1, 0, 0, 0), (136, .getfield 62, 3, 12, 29, 3), (139, .iload 7, 2, 0, 0, 0), (141, .iload 6, 2, 0, 0, 0), (143, .iastore, 1, 0, 0, 0)],
  [(144, .iconst 1, 1, 0, 0, 0), (145, .istore 5, 2, 0, 0, 0), (147, .aload_n 0, 1, 0, 0, 0), (148, .getfield 59, 3, 12, 28, 3), (151, .iload 7, 2, 0, 0, 0), (153, .iaload, 1, 0, 0, 0), (154, .aload_n 0, 1, 0, 0, 0), (155, .getfield 7, 3, 12, 0, 3), (158, .bipush 20, 2, 0, 0, 0)],
  [(160, .iconst 5, 1, 0, 0, 0), (161, .iload 7, 2, 0, 0, 0), (163, .imul, 1, 0, 0, 0), (164, .iadd, 1, 0, 0, 0), (165, .iconst 2, 1, 0, 0, 0), (166, .iadd, 1, 0, 0, 0), (167, .iaload, 1, 0, 0, 0), (168, .if_icmp .ge 12, 3, 0, 0, 0), (171, .aload_n 0, 1, 0, 0, 0), (172, .iload_n 1, 1, 0, 0, 0), (173, .iload 7, 2, 0, 0, 0), (175, .invokevirtual 319, 3, 102, 2, 0)],
  [(178, .iconst 1, 1, 0, 0, 0), (179, .ireturn, 1, 0, 0, 0), (180, .iload_n 3, 1, 0, 0, 0), (181, .istore 8, 2, 0, 0, 0), (183, .iload 8, 2, 0, 0, 0), (185, .aload_n 0, 1, 0, 0, 0), (186, .getfield 7, 3, 12, 0, 3), (189, .bipush 11, 2, 0, 0, 0), (191, .iaload, 1, 0, 0, 0)],
  [(192, .if_icmp .ge 49, 3, 0, 0, 0), (195, .aload_n 0, 1, 0, 0, 0), (196, .getfield 65, 3, 12, 30, 3), (199, .iload 8, 2, 0, 0, 0), (201, .aload_n 0, 1, 0, 0, 0), (202, .getfield 65, 3, 12, 30, 3), (205, .iload 8, 2, 0, 0, 0), (207, .baload, 1, 0, 0, 0)],
  [(208, .ifCond .ne 21, 3, 0, 0, 0), (211, .aload_n 0, 1, 0, 0, 0), (212, .getfield 56, 3, 12, 27, 3), (215, .iload 8, 2, 0, 0, 0), (217, .iaload, 1, 0, 0, 0), (218, .iload 7, 2, 0, 0, 0), (220, .if_icmp .ne 13, 3, 0, 0, 0), (223, .iload 8, 2, 0, 0, 0)],
  [(225, .iload_n 1, 1, 0, 0, 0), (226, .if_icmp .eq 7, 3, 0, 0, 0), (229, .iconst 1, 1, 0, 0, 0), (230, .goto 4, 3, 0, 0, 0), (233, .iconst 0, 1, 0, 0, 0), (234, .bastore, 1, 0, 0, 0), (235, .iinc 8 1, 3, 0, 0, 0), (238, .goto (-55), 3, 0, 0, 0)],
  [(241, .iinc 7 1, 3, 0, 0, 0), (244, .goto (-157), 3, 0, 0, 0), (247, .iinc 6 1, 3, 0, 0, 0), (250, .goto (-178), 3, 0, 0, 0), (253, .goto (-192), 3, 0, 0, 0)],
  [(256, .iconst 0, 1, 0, 0, 0), (257, .ireturn, 1, 0, 0, 0)]]
/-- WarmNightModel.moves -/
def et_183 : List (List ex_I) := [[(0, .iload_n 2, 1, 0, 0, 0), (1, .istore_n 3, 1, 0, 0, 0), (2, .aload_n 0, 1, 0, 0, 0), (3, .getfield 59, 3, 12, 28, 3), (6, .iload_n 3, 1, 0, 0, 0), (7, .dup2, 1, 0, 0, 0), (8, .iaload, 1, 0, 0, 0), (9, .iconst 1, 1, 0, 0, 0), (10, .iadd, 1, 0, 0, 0), (11, .iastore, 1, 0, 0, 0), (12, .iconst 1, 1, 0, 0, 0), (13, .istore 4, 2, 0, 0, 0), (15, .iload 4, 2, 0, 0, 0)],
  [(17, .ifCond .eq 56, 3, 0, 0, 0), (20, .aload_n 0, 1, 0, 0, 0), (21, .getfield 62, 3, 12, 29, 3), (24, .iload_n 3, 1, 0, 0, 0), (25, .iaload, 1, 0, 0, 0), (26, .istore 5, 2, 0, 0, 0), (28, .aload_n 0, 1, 0, 0, 0), (29, .getfield 56, 3, 12, 27, 3)],
  [(32, .iload 5, 2, 0, 0, 0), (34, .iaload, 1, 0, 0, 0), (35, .istore 6, 2, 0, 0, 0), (37, .aload_n 0, 1, 0, 0, 0), (38, .getfield 56, 3, 12, 27, 3), (41, .iload 5, 2, 0, 0, 0), (43, .iload_n 3, 1, 0, 0, 0), (44, .iastore, 1, 0, 0, 0), (45, .iload 5, 2, 0, 0, 0), (47, .iload_n 1, 1, 0, 0, 0)],
  [(48, .if_icmp .eq 7, 3, 0, 0, 0), (51, .iconst 1, 1, 0, 0, 0), (52, .goto 4, 3, 0, 0, 0), (55, .iconst 0, 1, 0, 0, 0), (56, .istore 4, 2, 0, 0, 0), (58, .iload 4, 2, 0, 0, 0), (60, .ifCond .eq 8, 3, 0, 0, 0), (63, .iload 6, 2, 0, 0, 0)],
  [(65, .goto 4, 3, 0, 0, 0), (68, .iload_n 3, 1, 0, 0, 0), (69, .istore_n 3, 1, 0, 0, 0), (70, .goto (-55), 3, 0, 0, 0), (73, .return_, 1, 0, 0, 0)]]
/-- WarmNightModel.seats -/
def et_184 : List (List ex_I) := [[(0, .iconst 0, 1, 0, 0, 0), (1, .istore_n 3, 1, 0, 0, 0), (2, .iload_n 3, 1, 0, 0, 0), (3, .bipush 8, 2, 0, 0, 0), (5, .if_icmp .ge 16, 3, 0, 0, 0), (8, .aload_n 0, 1, 0, 0, 0), (9, .getfield 59, 3, 12, 28, 3), (12, .iload_n 3, 1, 0, 0, 0), (13, .iconst 0, 1, 0, 0, 0), (14, .iastore, 1, 0, 0, 0), (15, .iinc 3 1, 3, 0, 0, 0)],
  [(18, .goto (-16), 3, 0, 0, 0), (21, .iconst 0, 1, 0, 0, 0), (22, .istore_n 3, 1, 0, 0, 0), (23, .iload_n 3, 1, 0, 0, 0), (24, .aload_n 0, 1, 0, 0, 0), (25, .getfield 7, 3, 12, 0, 3), (28, .bipush 11, 2, 0, 0, 0), (30, .iaload, 1, 0, 0, 0), (31, .if_icmp .ge 39, 3, 0, 0, 0)],
  [(34, .iload_n 3, 1, 0, 0, 0), (35, .iload_n 2, 1, 0, 0, 0), (36, .if_icmp .ge 21, 3, 0, 0, 0), (39, .aload_n 0, 1, 0, 0, 0), (40, .getfield 59, 3, 12, 28, 3), (43, .aload_n 0, 1, 0, 0, 0), (44, .getfield 56, 3, 12, 27, 3), (47, .iload_n 3, 1, 0, 0, 0)],
  [(48, .iaload, 1, 0, 0, 0), (49, .dup2, 1, 0, 0, 0), (50, .iaload, 1, 0, 0, 0), (51, .iconst 1, 1, 0, 0, 0), (52, .iadd, 1, 0, 0, 0), (53, .iastore, 1, 0, 0, 0), (54, .goto 10, 3, 0, 0, 0), (57, .aload_n 0, 1, 0, 0, 0), (58, .getfield 56, 3, 12, 27, 3), (61, .iload_n 3, 1, 0, 0, 0), (62, .iconst (-1), 1, 0, 0, 0), (63, .iastore, 1, 0, 0, 0)],
  [(64, .iinc 3 1, 3, 0, 0, 0), (67, .goto (-44), 3, 0, 0, 0), (70, .iconst 1, 1, 0, 0, 0), (71, .istore_n 3, 1, 0, 0, 0), (72, .iconst 0, 1, 0, 0, 0), (73, .istore 4, 2, 0, 0, 0), (75, .iload 4, 2, 0, 0, 0), (77, .aload_n 0, 1, 0, 0, 0), (78, .getfield 7, 3, 12, 0, 3)],
  [(81, .iconst 0, 1, 0, 0, 0), (82, .iaload, 1, 0, 0, 0), (83, .if_icmp .ge 43, 3, 0, 0, 0), (86, .iload_n 3, 1, 0, 0, 0), (87, .ifCond .eq 31, 3, 0, 0, 0), (90, .aload_n 0, 1, 0, 0, 0), (91, .getfield 59, 3, 12, 28, 3), (94, .iload 4, 2, 0, 0, 0)],
  [(96, .iaload, 1, 0, 0, 0), (97, .aload_n 0, 1, 0, 0, 0), (98, .getfield 7, 3, 12, 0, 3), (101, .bipush 20, 2, 0, 0, 0), (103, .iconst 5, 1, 0, 0, 0), (104, .iload 4, 2, 0, 0, 0), (106, .imul, 1, 0, 0, 0), (107, .iadd, 1, 0, 0, 0), (108, .iconst 2, 1, 0, 0, 0), (109, .iadd, 1, 0, 0, 0), (110, .iaload, 1, 0, 0, 0), (111, .if_icmp .gt 7, 3, 0, 0, 0)],
  [(114, .iconst 1, 1, 0, 0, 0), (115, .goto 4, 3, 0, 0, 0), (118, .iconst 0, 1, 0, 0, 0), (119, .istore_n 3, 1, 0, 0, 0), (120, .iinc 4 1, 3, 0, 0, 0), (123, .goto (-48), 3, 0, 0, 0), (126, .iconst 0, 1, 0, 0, 0), (127, .istore 4, 2, 0, 0, 0)],
  [(129, .iload 4, 2, 0, 0, 0), (131, .iload_n 2, 1, 0, 0, 0), (132, .if_icmp .ge 41, 3, 0, 0, 0), (135, .iload_n 3, 1, 0, 0, 0), (136, .ifCond .eq 29, 3, 0, 0, 0), (139, .aload_n 0, 1, 0, 0, 0), (140, .getfield 53, 3, 12, 26, 3), (143, .bipush 8, 2, 0, 0, 0)],
  [(145, .iload 4, 2, 0, 0, 0), (147, .imul, 1, 0, 0, 0), (148, .aload_n 0, 1, 0, 0, 0), (149, .getfield 56, 3, 12, 27, 3), (152, .iload 4, 2, 0, 0, 0), (154, .iaload, 1, 0, 0, 0), (155, .iadd, 1, 0, 0, 0), (156, .iaload, 1, 0, 0, 0), (157, .iload_n 1, 1, 0, 0, 0), (158, .if_icmp .lt 7, 3, 0, 0, 0)],
  [(161, .iconst 1, 1, 0, 0, 0), (162, .goto 4, 3, 0, 0, 0), (165, .iconst 0, 1, 0, 0, 0), (166, .istore_n 3, 1, 0, 0, 0), (167, .iinc 4 1, 3, 0, 0, 0), (170, .goto (-41), 3, 0, 0, 0), (173, .iload_n 2, 1, 0, 0, 0), (174, .istore 4, 2, 0, 0, 0)],
  [(176, .iload 4, 2, 0, 0, 0), (178, .aload_n 0, 1, 0, 0, 0), (179, .getfield 7, 3, 12, 0, 3), (182, .bipush 11, 2, 0, 0, 0), (184, .iaload, 1, 0, 0, 0), (185, .if_icmp .ge 22, 3, 0, 0, 0), (188, .iload_n 3, 1, 0, 0, 0), (189, .ifCond .eq 18, 3, 0, 0, 0)],
  [(192, .aload_n 0, 1, 0, 0, 0), (193, .iload 4, 2, 0, 0, 0), (195, .iload_n 1, 1, 0, 0, 0), (196, .iload_n 2, 1, 0, 0, 0), (197, .invokevirtual 322, 3, 103, 3, 0), (200, .istore_n 3, 1, 0, 0, 0), (201, .iinc 4 1, 3, 0, 0, 0), (204, .goto (-28), 3, 0, 0, 0), (207, .iload_n 3, 1, 0, 0, 0)],
  [(208, .ireturn, 1, 0, 0, 0)]]
/-- WarmNightModel.bestMargin -/
def et_185 : List (List ex_I) := [[(0, .ldc_w 308, 3, 0, 0, (-1000000)), (3, .istore_n 1, 1, 0, 0, 0), (4, .iconst 0, 1, 0, 0, 0), (5, .istore_n 2, 1, 0, 0, 0), (6, .iload_n 2, 1, 0, 0, 0), (7, .bipush 64, 2, 0, 0, 0), (9, .if_icmp .ge 73, 3, 0, 0, 0), (12, .iload_n 2, 1, 0, 0, 0), (13, .bipush 8, 2, 0, 0, 0), (15, .idiv, 1, 0, 0, 0)],
  [(16, .istore_n 3, 1, 0, 0, 0), (17, .iload_n 2, 1, 0, 0, 0), (18, .bipush 8, 2, 0, 0, 0), (20, .irem, 1, 0, 0, 0), (21, .istore 4, 2, 0, 0, 0), (23, .iload_n 3, 1, 0, 0, 0), (24, .aload_n 0, 1, 0, 0, 0), (25, .getfield 7, 3, 12, 0, 3), (28, .bipush 11, 2, 0, 0, 0), (30, .iaload, 1, 0, 0, 0), (31, .if_icmp .ge 45, 3, 0, 0, 0)],
  [(34, .iload 4, 2, 0, 0, 0), (36, .aload_n 0, 1, 0, 0, 0), (37, .getfield 7, 3, 12, 0, 3), (40, .iconst 0, 1, 0, 0, 0), (41, .iaload, 1, 0, 0, 0), (42, .if_icmp .ge 34, 3, 0, 0, 0), (45, .aload_n 0, 1, 0, 0, 0), (46, .getfield 53, 3, 12, 26, 3)],
  [(49, .iload_n 2, 1, 0, 0, 0), (50, .iaload, 1, 0, 0, 0), (51, .iload_n 1, 1, 0, 0, 0), (52, .if_icmp .le 24, 3, 0, 0, 0), (55, .aload_n 0, 1, 0, 0, 0), (56, .aload_n 0, 1, 0, 0, 0), (57, .getfield 53, 3, 12, 26, 3), (60, .iload_n 2, 1, 0, 0, 0), (61, .iaload, 1, 0, 0, 0), (62, .iconst 0, 1, 0, 0, 0), (63, .invokevirtual 326, 3, 104, 2, 0)],
  [(66, .ifCond .eq 10, 3, 0, 0, 0), (69, .aload_n 0, 1, 0, 0, 0), (70, .getfield 53, 3, 12, 26, 3), (73, .iload_n 2, 1, 0, 0, 0), (74, .iaload, 1, 0, 0, 0), (75, .istore_n 1, 1, 0, 0, 0), (76, .iinc 2 1, 3, 0, 0, 0), (79, .goto (-73), 3, 0, 0, 0)],
  [(82, .iload_n 1, 1, 0, 0, 0), (83, .ireturn, 1, 0, 0, 0)]]
/-- WarmNightModel.sit -/
def et_186 : List (List ex_I) := [[(0, .iload_n 1, 1, 0, 0, 0), (1, .iload_n 2, 1, 0, 0, 0), (2, .invokestatic 299, 3, 170, 2, 0), (5, .ifCond .eq 16, 3, 0, 0, 0), (8, .iload_n 3, 1, 0, 0, 0), (9, .iconst (-1), 1, 0, 0, 0), (10, .if_icmp .eq 14, 3, 0, 0, 0), (13, .aload_n 0, 1, 0, 0, 0), (14, .iload_n 3, 1, 0, 0, 0), (15, .invokevirtual 147, 3, 72, 1, 0)],
  [(18, .ifCond .ne 6, 3, 0, 0, 0), (21, .ldc 103, 2, 0, 0, (-100000)), (23, .ireturn, 1, 0, 0, 0), (24, .iconst 0, 1, 0, 0, 0), (25, .istore 4, 2, 0, 0, 0), (27, .iconst 0, 1, 0, 0, 0), (28, .istore 5, 2, 0, 0, 0), (30, .iload 5, 2, 0, 0, 0)],
  [(32, .aload_n 0, 1, 0, 0, 0), (33, .getfield 7, 3, 12, 0, 3), (36, .iconst 0, 1, 0, 0, 0), (37, .iaload, 1, 0, 0, 0), (38, .if_icmp .ge 28, 3, 0, 0, 0), (41, .iload 4, 2, 0, 0, 0), (43, .aload_n 0, 1, 0, 0, 0), (44, .getfield 7, 3, 12, 0, 3), (47, .bipush 20, 2, 0, 0, 0)],
  [(49, .iconst 5, 1, 0, 0, 0), (50, .iload 5, 2, 0, 0, 0), (52, .imul, 1, 0, 0, 0), (53, .iadd, 1, 0, 0, 0), (54, .iconst 2, 1, 0, 0, 0), (55, .iadd, 1, 0, 0, 0), (56, .iaload, 1, 0, 0, 0), (57, .iadd, 1, 0, 0, 0), (58, .istore 4, 2, 0, 0, 0), (60, .iinc 5 1, 3, 0, 0, 0), (63, .goto (-33), 3, 0, 0, 0)],
  [(66, .iload 4, 2, 0, 0, 0), (68, .aload_n 0, 1, 0, 0, 0), (69, .getfield 7, 3, 12, 0, 3), (72, .bipush 11, 2, 0, 0, 0), (74, .iaload, 1, 0, 0, 0), (75, .if_icmp .ge 6, 3, 0, 0, 0), (78, .ldc 88, 2, 0, 0, (-200000))],
  [(80, .ireturn, 1, 0, 0, 0), (81, .aload_n 0, 1, 0, 0, 0), (82, .getfield 7, 3, 12, 0, 3), (85, .bipush 11, 2, 0, 0, 0), (87, .iaload, 1, 0, 0, 0), (88, .ifCond .ne 7, 3, 0, 0, 0), (91, .sipush 1000, 3, 0, 0, 0), (94, .ireturn, 1, 0, 0, 0), (95, .aload_n 0, 1, 0, 0, 0)],
  [(96, .iload_n 1, 1, 0, 0, 0), (97, .iload_n 2, 1, 0, 0, 0), (98, .invokevirtual 287, 3, 95, 2, 0), (101, .iconst 0, 1, 0, 0, 0), (102, .istore 5, 2, 0, 0, 0), (104, .iload 5, 2, 0, 0, 0), (106, .aload_n 0, 1, 0, 0, 0), (107, .getfield 7, 3, 12, 0, 3), (110, .bipush 11, 2, 0, 0, 0)],
  [(112, .iaload, 1, 0, 0, 0), (113, .if_icmp .ge 139, 3, 0, 0, 0), (116, .iconst 0, 1, 0, 0, 0), (117, .istore 6, 2, 0, 0, 0), (119, .iload 6, 2, 0, 0, 0), (121, .aload_n 0, 1, 0, 0, 0), (122, .getfield 7, 3, 12, 0, 3), (125, .iconst 0, 1, 0, 0, 0), (126, .iaload, 1, 0, 0, 0), (127, .if_icmp .ge 119, 3, 0, 0, 0)],
  [(130, .ldc_w 273, 3, 0, 0, 1000000), (133, .istore 7, 2, 0, 0, 0), (135, .iconst 0, 1, 0, 0, 0), (136, .istore 8, 2, 0, 0, 0), (138, .iload 8, 2, 0, 0, 0), (140, .aload_n 0, 1, 0, 0, 0), (141, .getfield 7, 3, 12, 0, 3)],
  [(144, .iconst 3, 1, 0, 0, 0), (145, .iaload, 1, 0, 0, 0), (146, .if_icmp .ge 79, 3, 0, 0, 0), (149, .aload_n 0, 1, 0, 0, 0), (150, .iload 6, 2, 0, 0, 0), (152, .iload 5, 2, 0, 0, 0), (154, .iload 8, 2, 0, 0, 0), (156, .aload_n 0, 1, 0, 0, 0), (157, .getfield 7, 3, 12, 0, 3)],
  [(160, .sipush 160, 3, 0, 0, 0), (163, .bipush 6, 2, 0, 0, 0), (165, .iload 5, 2, 0, 0, 0), (167, .imul, 1, 0, 0, 0), (168, .iadd, 1, 0, 0, 0), (169, .iconst 5, 1, 0, 0, 0), (170, .iadd, 1, 0, 0, 0), (171, .iaload, 1, 0, 0, 0), (172, .iconst 1, 1, 0, 0, 0), (173, .if_icmp .ne 7, 3, 0, 0, 0)],
  [(176, .iconst 1, 1, 0, 0, 0), (177, .goto 4, 3, 0, 0, 0), (180, .iconst 0, 1, 0, 0, 0), (181, .invokevirtual 283, 3, 94, 4, 0), (184, .aload_n 0, 1, 0, 0, 0), (185, .getfield 7, 3, 12, 0, 3), (188, .sipush 160, 3, 0, 0, 0), (191, .bipush 6, 2, 0, 0, 0)],
  [(193, .iload 5, 2, 0, 0, 0), (195, .imul, 1, 0, 0, 0), (196, .iadd, 1, 0, 0, 0), (197, .iconst 2, 1, 0, 0, 0), (198, .iadd, 1, 0, 0, 0), (199, .iaload, 1, 0, 0, 0), (200, .isub, 1, 0, 0, 0), (201, .istore 9, 2, 0, 0, 0), (203, .iload 9, 2, 0, 0, 0), (205, .iload 7, 2, 0, 0, 0), (207, .if_icmp .ge 8, 3, 0, 0, 0)],
  [(210, .iload 9, 2, 0, 0, 0), (212, .goto 5, 3, 0, 0, 0), (215, .iload 7, 2, 0, 0, 0), (217, .istore 7, 2, 0, 0, 0), (219, .iinc 8 1, 3, 0, 0, 0), (222, .goto (-84), 3, 0, 0, 0)],
  [(225, .aload_n 0, 1, 0, 0, 0), (226, .getfield 53, 3, 12, 26, 3), (229, .bipush 8, 2, 0, 0, 0), (231, .iload 5, 2, 0, 0, 0), (233, .imul, 1, 0, 0, 0), (234, .iload 6, 2, 0, 0, 0), (236, .iadd, 1, 0, 0, 0), (237, .iload 7, 2, 0, 0, 0), (239, .iastore, 1, 0, 0, 0)],
  [(240, .iinc 6 1, 3, 0, 0, 0), (243, .goto (-124), 3, 0, 0, 0), (246, .iinc 5 1, 3, 0, 0, 0), (249, .goto (-145), 3, 0, 0, 0), (252, .aload_n 0, 1, 0, 0, 0), (253, .invokevirtual 329, 3, 105, 0, 0)],
  [(256, .istore 5, 2, 0, 0, 0), (258, .iload_n 3, 1, 0, 0, 0), (259, .iconst (-1), 1, 0, 0, 0), (260, .if_icmp .ne 6, 3, 0, 0, 0), (263, .iload 5, 2, 0, 0, 0), (265, .ireturn, 1, 0, 0, 0), (266, .iconst 0, 1, 0, 0, 0), (267, .istore 6, 2, 0, 0, 0), (269, .iload 6, 2, 0, 0, 0), (271, .iload_n 3, 1, 0, 0, 0)],
  [(272, .if_icmp .gt 96, 3, 0, 0, 0), (275, .iconst 0, 1, 0, 0, 0), (276, .istore 7, 2, 0, 0, 0), (278, .aload_n 0, 1, 0, 0, 0), (279, .getfield 56, 3, 12, 27, 3), (282, .iload 6, 2, 0, 0, 0), (284, .iconst 0, 1, 0, 0, 0), (285, .iastore, 1, 0, 0, 0), (286, .aload_n 0, 1, 0, 0, 0), (287, .iload 5, 2, 0, 0, 0)],
  [(289, .iload 6, 2, 0, 0, 0), (291, .iconst 1, 1, 0, 0, 0), (292, .iadd, 1, 0, 0, 0), (293, .invokevirtual 326, 3, 104, 2, 0), (296, .ifCond .ne 18, 3, 0, 0, 0), (299, .iinc 7 1, 3, 0, 0, 0), (302, .aload_n 0, 1, 0, 0, 0), (303, .getfield 56, 3, 12, 27, 3)],
  [(306, .iload 6, 2, 0, 0, 0), (308, .iload 7, 2, 0, 0, 0), (310, .iastore, 1, 0, 0, 0), (311, .goto (-25), 3, 0, 0, 0), (314, .aload_n 0, 1, 0, 0, 0), (315, .getfield 56, 3, 12, 27, 3), (318, .iload 6, 2, 0, 0, 0)],
  [(320, .iload 7, 2, 0, 0, 0), (322, .iastore, 1, 0, 0, 0), (323, .aload_n 0, 1, 0, 0, 0), (324, .getfield 71, 3, 12, 32, 3), (327, .iload 6, 2, 0, 0, 0), (329, .iload 7, 2, 0, 0, 0), (331, .iastore, 1, 0, 0, 0), (332, .iconst 0, 1, 0, 0, 0), (333, .istore 8, 2, 0, 0, 0), (335, .iload 8, 2, 0, 0, 0)],
  [(337, .iload 6, 2, 0, 0, 0), (339, .if_icmp .gt 23, 3, 0, 0, 0), (342, .aload_n 0, 1, 0, 0, 0), (343, .getfield 56, 3, 12, 27, 3), (346, .iload 8, 2, 0, 0, 0), (348, .aload_n 0, 1, 0, 0, 0), (349, .getfield 71, 3, 12, 32, 3)],
  [(352, .iload 8, 2, 0, 0, 0), (354, .iaload, 1, 0, 0, 0), (355, .iastore, 1, 0, 0, 0), (356, .iinc 8 1, 3, 0, 0, 0), (359, .goto (-24), 3, 0, 0, 0), (362, .iinc 6 1, 3, 0, 0, 0), (365, .goto (-96), 3, 0, 0, 0)],
  [(368, .aload_n 0, 1, 0, 0, 0), (369, .getfield 71, 3, 12, 32, 3), (372, .iload_n 3, 1, 0, 0, 0), (373, .iaload, 1, 0, 0, 0), (374, .ireturn, 1, 0, 0, 0)]]
/-- WarmNightModel.sizeOf -/
def et_187 : List (List ex_I) := [[(0, .iconst 0, 1, 0, 0, 0), (1, .istore_n 1, 1, 0, 0, 0), (2, .iload_n 0, 1, 0, 0, 0), (3, .istore_n 2, 1, 0, 0, 0), (4, .iload_n 2, 1, 0, 0, 0), (5, .ifCond .le 16, 3, 0, 0, 0), (8, .iload_n 1, 1, 0, 0, 0), (9, .iload_n 2, 1, 0, 0, 0), (10, .iconst 1, 1, 0, 0, 0), (11, .iand, 1, 0, 0, 0), (12, .iadd, 1, 0, 0, 0), (13, .istore_n 1, 1, 0, 0, 0), (14, .iload_n 2, 1, 0, 0, 0), (15, .iconst 1, 1, 0, 0, 0)],
  [(16, .ishr, 1, 0, 0, 0), (17, .istore_n 2, 1, 0, 0, 0), (18, .goto (-14), 3, 0, 0, 0), (21, .iload_n 1, 1, 0, 0, 0), (22, .ireturn, 1, 0, 0, 0)]]
/-- WarmNightModel.coats -/
def et_188 : List (List ex_I) := [[(0, .iload_n 1, 1, 0, 0, 0), (1, .iload_n 2, 1, 0, 0, 0), (2, .invokestatic 299, 3, 170, 2, 0), (5, .ifCond .eq 20, 3, 0, 0, 0), (8, .iload_n 3, 1, 0, 0, 0), (9, .i2l, 1, 0, 0, 0), (10, .lconst 0, 1, 0, 0, 0), (11, .aload_n 0, 1, 0, 0, 0), (12, .getfield 7, 3, 12, 0, 3), (15, .bipush 11, 2, 0, 0, 0)],
  [(17, .iaload, 1, 0, 0, 0), (18, .i2l, 1, 0, 0, 0), (19, .invokestatic 95, 3, 126, 3, 0), (22, .ifCond .ne 6, 3, 0, 0, 0), (25, .ldc 103, 2, 0, 0, (-100000)), (27, .ireturn, 1, 0, 0, 0), (28, .aload_n 0, 1, 0, 0, 0), (29, .iload_n 1, 1, 0, 0, 0), (30, .iload_n 2, 1, 0, 0, 0), (31, .invokevirtual 287, 3, 95, 2, 0)],
  [(34, .iconst (-1), 1, 0, 0, 0), (35, .istore 4, 2, 0, 0, 0), (37, .iconst (-1), 1, 0, 0, 0), (38, .istore 5, 2, 0, 0, 0), (40, .iconst 0, 1, 0, 0, 0), (41, .istore 6, 2, 0, 0, 0), (43, .iconst 0, 1, 0, 0, 0), (44, .istore 7, 2, 0, 0, 0), (46, .iload 7, 2, 0, 0, 0)],
  [(48, .iconst 1, 1, 0, 0, 0), (49, .aload_n 0, 1, 0, 0, 0), (50, .getfield 7, 3, 12, 0, 3), (53, .bipush 11, 2, 0, 0, 0), (55, .iaload, 1, 0, 0, 0), (56, .ishl, 1, 0, 0, 0), (57, .if_icmp .ge 68, 3, 0, 0, 0), (60, .iload 7, 2, 0, 0, 0), (62, .invokestatic 332, 3, 187, 1, 0)],
  [(65, .iload_n 3, 1, 0, 0, 0), (66, .if_icmp .ne 53, 3, 0, 0, 0), (69, .aload_n 0, 1, 0, 0, 0), (70, .iload_n 1, 1, 0, 0, 0), (71, .iload 7, 2, 0, 0, 0), (73, .invokevirtual 294, 3, 97, 2, 0), (76, .aload_n 0, 1, 0, 0, 0), (77, .getfield 277, 3, 12, 21, 0)],
  [(80, .iload 5, 2, 0, 0, 0), (82, .if_icmp .gt 21, 3, 0, 0, 0), (85, .aload_n 0, 1, 0, 0, 0), (86, .getfield 277, 3, 12, 21, 0), (89, .iload 5, 2, 0, 0, 0), (91, .if_icmp .ne 28, 3, 0, 0, 0), (94, .aload_n 0, 1, 0, 0, 0), (95, .getfield 274, 3, 12, 20, 0)],
  [(98, .iload 6, 2, 0, 0, 0), (100, .if_icmp .le 19, 3, 0, 0, 0), (103, .iload 7, 2, 0, 0, 0), (105, .istore 4, 2, 0, 0, 0), (107, .aload_n 0, 1, 0, 0, 0), (108, .getfield 277, 3, 12, 21, 0), (111, .istore 5, 2, 0, 0, 0)],
  [(113, .aload_n 0, 1, 0, 0, 0), (114, .getfield 274, 3, 12, 20, 0), (117, .istore 6, 2, 0, 0, 0), (119, .iinc 7 1, 3, 0, 0, 0), (122, .goto (-76), 3, 0, 0, 0), (125, .iload 4, 2, 0, 0, 0), (127, .ireturn, 1, 0, 0, 0)]]
/-- WarmNightModel.fewest -/
def et_189 : List (List ex_I) := [[(0, .iload_n 1, 1, 0, 0, 0), (1, .iload_n 2, 1, 0, 0, 0), (2, .invokestatic 299, 3, 170, 2, 0), (5, .ifCond .ne 6, 3, 0, 0, 0), (8, .ldc 103, 2, 0, 0, (-100000)), (10, .ireturn, 1, 0, 0, 0), (11, .aload_n 0, 1, 0, 0, 0), (12, .iload_n 1, 1, 0, 0, 0), (13, .iload_n 2, 1, 0, 0, 0), (14, .invokevirtual 287, 3, 95, 2, 0)],
  [(17, .ldc_w 273, 3, 0, 0, 1000000), (20, .istore_n 3, 1, 0, 0, 0), (21, .iconst 0, 1, 0, 0, 0), (22, .istore 4, 2, 0, 0, 0), (24, .iload 4, 2, 0, 0, 0), (26, .iconst 1, 1, 0, 0, 0), (27, .aload_n 0, 1, 0, 0, 0), (28, .getfield 7, 3, 12, 0, 3), (31, .bipush 11, 2, 0, 0, 0)],
  [(33, .iaload, 1, 0, 0, 0), (34, .ishl, 1, 0, 0, 0), (35, .if_icmp .ge 44, 3, 0, 0, 0), (38, .aload_n 0, 1, 0, 0, 0), (39, .iload_n 1, 1, 0, 0, 0), (40, .iload 4, 2, 0, 0, 0), (42, .invokevirtual 294, 3, 97, 2, 0), (45, .aload_n 0, 1, 0, 0, 0), (46, .getfield 277, 3, 12, 21, 0)],
  [(49, .bipush 100, 2, 0, 0, 0), (51, .if_icmp .ne 20, 3, 0, 0, 0), (54, .iload 4, 2, 0, 0, 0), (56, .invokestatic 332, 3, 187, 1, 0), (59, .iload_n 3, 1, 0, 0, 0), (60, .if_icmp .ge 11, 3, 0, 0, 0), (63, .iload 4, 2, 0, 0, 0)],
  [(65, .invokestatic 332, 3, 187, 1, 0), (68, .goto 4, 3, 0, 0, 0), (71, .iload_n 3, 1, 0, 0, 0), (72, .istore_n 3, 1, 0, 0, 0), (73, .iinc 4 1, 3, 0, 0, 0), (76, .goto (-52), 3, 0, 0, 0), (79, .iload_n 3, 1, 0, 0, 0)],
  [(80, .ldc_w 273, 3, 0, 0, 1000000), (83, .if_icmp .ne 7, 3, 0, 0, 0), (86, .iconst (-1), 1, 0, 0, 0), (87, .goto 4, 3, 0, 0, 0), (90, .iload_n 3, 1, 0, 0, 0), (91, .ireturn, 1, 0, 0, 0)]]
/-- WarmNightModel.allHelp -/
def et_190 : List (List ex_I) := [[(0, .aload_n 0, 1, 0, 0, 0), (1, .getfield 7, 3, 12, 0, 3), (4, .bipush 10, 2, 0, 0, 0), (6, .iaload, 1, 0, 0, 0), (7, .istore_n 1, 1, 0, 0, 0), (8, .iconst 0, 1, 0, 0, 0), (9, .istore_n 2, 1, 0, 0, 0), (10, .iload_n 2, 1, 0, 0, 0), (11, .aload_n 0, 1, 0, 0, 0), (12, .getfield 7, 3, 12, 0, 3), (15, .iconst 3, 1, 0, 0, 0)],
  [(16, .iaload, 1, 0, 0, 0), (17, .if_icmp .ge 25, 3, 0, 0, 0), (20, .iload_n 1, 1, 0, 0, 0), (21, .aload_n 0, 1, 0, 0, 0), (22, .getfield 7, 3, 12, 0, 3), (25, .bipush 60, 2, 0, 0, 0), (27, .iconst 4, 1, 0, 0, 0), (28, .iload_n 2, 1, 0, 0, 0), (29, .imul, 1, 0, 0, 0), (30, .iadd, 1, 0, 0, 0), (31, .iconst 1, 1, 0, 0, 0)],
  [(32, .iadd, 1, 0, 0, 0), (33, .iaload, 1, 0, 0, 0), (34, .iadd, 1, 0, 0, 0), (35, .istore_n 1, 1, 0, 0, 0), (36, .iinc 2 1, 3, 0, 0, 0), (39, .goto (-29), 3, 0, 0, 0), (42, .iload_n 1, 1, 0, 0, 0), (43, .ireturn, 1, 0, 0, 0)]]
/-- WarmNightModel.savedBy -/
def et_191 : List (List ex_I) := [[(0, .aload_n 0, 1, 0, 0, 0), (1, .iload_n 1, 1, 0, 0, 0), (2, .iload_n 2, 1, 0, 0, 0), (3, .invokevirtual 305, 3, 99, 2, 0), (6, .aload_n 0, 1, 0, 0, 0), (7, .getfield 277, 3, 12, 21, 0), (10, .bipush 100, 2, 0, 0, 0), (12, .if_icmp .ne 13, 3, 0, 0, 0), (15, .aload_n 0, 1, 0, 0, 0)],
  [(16, .getfield 7, 3, 12, 0, 3), (19, .bipush 10, 2, 0, 0, 0), (21, .iaload, 1, 0, 0, 0), (22, .goto 4, 3, 0, 0, 0), (25, .iconst 0, 1, 0, 0, 0), (26, .istore_n 3, 1, 0, 0, 0), (27, .iconst 0, 1, 0, 0, 0), (28, .istore 4, 2, 0, 0, 0), (30, .iload 4, 2, 0, 0, 0)],
  [(32, .aload_n 0, 1, 0, 0, 0), (33, .getfield 7, 3, 12, 0, 3), (36, .iconst 3, 1, 0, 0, 0), (37, .iaload, 1, 0, 0, 0), (38, .if_icmp .ge 39, 3, 0, 0, 0), (41, .iload_n 3, 1, 0, 0, 0), (42, .aload_n 0, 1, 0, 0, 0), (43, .getfield 277, 3, 12, 21, 0), (46, .iload 4, 2, 0, 0, 0)],
  [(48, .if_icmp .le 20, 3, 0, 0, 0), (51, .aload_n 0, 1, 0, 0, 0), (52, .getfield 7, 3, 12, 0, 3), (55, .bipush 60, 2, 0, 0, 0), (57, .iconst 4, 1, 0, 0, 0), (58, .iload 4, 2, 0, 0, 0), (60, .imul, 1, 0, 0, 0), (61, .iadd, 1, 0, 0, 0), (62, .iconst 1, 1, 0, 0, 0), (63, .iadd, 1, 0, 0, 0)],
  [(64, .iaload, 1, 0, 0, 0), (65, .goto 4, 3, 0, 0, 0), (68, .iconst 0, 1, 0, 0, 0), (69, .iadd, 1, 0, 0, 0), (70, .istore_n 3, 1, 0, 0, 0), (71, .iinc 4 1, 3, 0, 0, 0), (74, .goto (-44), 3, 0, 0, 0), (77, .iload_n 3, 1, 0, 0, 0), (78, .ireturn, 1, 0, 0, 0)]]
/-- WarmNightModel.saved -/
def et_192 : List (List ex_I) := [[(0, .iload_n 1, 1, 0, 0, 0), (1, .iload_n 2, 1, 0, 0, 0), (2, .invokestatic 299, 3, 170, 2, 0), (5, .ifCond .ne 6, 3, 0, 0, 0), (8, .ldc 103, 2, 0, 0, (-100000)), (10, .ireturn, 1, 0, 0, 0), (11, .aload_n 0, 1, 0, 0, 0), (12, .invokevirtual 335, 3, 106, 0, 0), (15, .ifCond .ne 8, 3, 0, 0, 0)],
  [(18, .ldc 88, 2, 0, 0, (-200000)), (20, .goto 19, 3, 0, 0, 0), (23, .aload_n 0, 1, 0, 0, 0), (24, .aload_n 0, 1, 0, 0, 0), (25, .iload_n 1, 1, 0, 0, 0), (26, .iload_n 2, 1, 0, 0, 0), (27, .invokevirtual 338, 3, 107, 2, 0), (30, .i2l, 1, 0, 0, 0), (31, .aload_n 0, 1, 0, 0, 0)],
  [(32, .invokevirtual 335, 3, 106, 0, 0), (35, .i2l, 1, 0, 0, 0), (36, .invokevirtual 341, 3, 108, 2, 0), (39, .ireturn, 1, 0, 0, 0)]]
/-- WarmNightModel.keep -/
def et_193 : List (List ex_I) := [[(0, .iload_n 1, 1, 0, 0, 0), (1, .i2l, 1, 0, 0, 0), (2, .lconst 0, 1, 0, 0, 0), (3, .ldc2_w 345, 3, 0, 0, 4), (6, .invokestatic 95, 3, 126, 3, 0), (9, .ifCond .ne 6, 3, 0, 0, 0), (12, .ldc 103, 2, 0, 0, (-100000)), (14, .ireturn, 1, 0, 0, 0), (15, .aload_n 0, 1, 0, 0, 0)],
  [(16, .invokevirtual 335, 3, 106, 0, 0), (19, .ifCond .ne 6, 3, 0, 0, 0), (22, .ldc 88, 2, 0, 0, (-200000)), (24, .ireturn, 1, 0, 0, 0), (25, .iconst 0, 1, 0, 0, 0), (26, .istore_n 2, 1, 0, 0, 0), (27, .iconst (-1), 1, 0, 0, 0), (28, .istore_n 3, 1, 0, 0, 0), (29, .iconst 0, 1, 0, 0, 0), (30, .istore 4, 2, 0, 0, 0)],
  [(32, .iload 4, 2, 0, 0, 0), (34, .bipush 10, 2, 0, 0, 0), (36, .if_icmp .ge 44, 3, 0, 0, 0), (39, .aload_n 0, 1, 0, 0, 0), (40, .iload_n 1, 1, 0, 0, 0), (41, .iload 4, 2, 0, 0, 0), (43, .invokevirtual 338, 3, 107, 2, 0), (46, .istore 5, 2, 0, 0, 0)],
  [(48, .iload 5, 2, 0, 0, 0), (50, .iload_n 3, 1, 0, 0, 0), (51, .if_icmp .le 8, 3, 0, 0, 0), (54, .iload 4, 2, 0, 0, 0), (56, .goto 4, 3, 0, 0, 0), (59, .iload_n 2, 1, 0, 0, 0), (60, .istore_n 2, 1, 0, 0, 0), (61, .iload 5, 2, 0, 0, 0), (63, .iload_n 3, 1, 0, 0, 0)],
  [(64, .if_icmp .le 8, 3, 0, 0, 0), (67, .iload 5, 2, 0, 0, 0), (69, .goto 4, 3, 0, 0, 0), (72, .iload_n 3, 1, 0, 0, 0), (73, .istore_n 3, 1, 0, 0, 0), (74, .iinc 4 1, 3, 0, 0, 0), (77, .goto (-45), 3, 0, 0, 0)],
  [(80, .iload_n 2, 1, 0, 0, 0), (81, .ireturn, 1, 0, 0, 0)]]
/-- WarmNightModel.worthOf -/
def et_194 : List (List ex_I) := [[(0, .bipush 60, 2, 0, 0, 0), (2, .iconst 4, 1, 0, 0, 0), (3, .iload_n 3, 1, 0, 0, 0), (4, .imul, 1, 0, 0, 0), (5, .iadd, 1, 0, 0, 0), (6, .iconst 3, 1, 0, 0, 0), (7, .iadd, 1, 0, 0, 0), (8, .istore 4, 2, 0, 0, 0), (10, .aload_n 0, 1, 0, 0, 0), (11, .iload_n 1, 1, 0, 0, 0), (12, .iload_n 2, 1, 0, 0, 0), (13, .invokevirtual 305, 3, 99, 2, 0)],
  [(16, .aload_n 0, 1, 0, 0, 0), (17, .getfield 274, 3, 12, 20, 0), (20, .istore 5, 2, 0, 0, 0), (22, .aload_n 0, 1, 0, 0, 0), (23, .getfield 7, 3, 12, 0, 3), (26, .iload 4, 2, 0, 0, 0), (28, .iconst 1, 1, 0, 0, 0), (29, .aload_n 0, 1, 0, 0, 0), (30, .getfield 7, 3, 12, 0, 3)],
  [(33, .iload 4, 2, 0, 0, 0), (35, .iaload, 1, 0, 0, 0), (36, .isub, 1, 0, 0, 0), (37, .iastore, 1, 0, 0, 0), (38, .aload_n 0, 1, 0, 0, 0), (39, .iload_n 1, 1, 0, 0, 0), (40, .iload_n 2, 1, 0, 0, 0), (41, .invokevirtual 305, 3, 99, 2, 0), (44, .aload_n 0, 1, 0, 0, 0), (45, .getfield 7, 3, 12, 0, 3)],
  [(48, .iload 4, 2, 0, 0, 0), (50, .iconst 1, 1, 0, 0, 0), (51, .aload_n 0, 1, 0, 0, 0), (52, .getfield 7, 3, 12, 0, 3), (55, .iload 4, 2, 0, 0, 0), (57, .iaload, 1, 0, 0, 0), (58, .isub, 1, 0, 0, 0), (59, .iastore, 1, 0, 0, 0), (60, .aload_n 0, 1, 0, 0, 0), (61, .getfield 274, 3, 12, 20, 0)],
  [(64, .iload 5, 2, 0, 0, 0), (66, .isub, 1, 0, 0, 0), (67, .ireturn, 1, 0, 0, 0)]]
/-- WarmNightModel.worth -/
def et_195 : List (List ex_I) := [[(0, .iload_n 1, 1, 0, 0, 0), (1, .iload_n 2, 1, 0, 0, 0), (2, .invokestatic 299, 3, 170, 2, 0), (5, .ifCond .eq 21, 3, 0, 0, 0), (8, .aload_n 0, 1, 0, 0, 0), (9, .iload_n 3, 1, 0, 0, 0), (10, .invokevirtual 302, 3, 98, 1, 0), (13, .ifCond .eq 13, 3, 0, 0, 0)],
  [(16, .aload_n 0, 1, 0, 0, 0), (17, .iload_n 1, 1, 0, 0, 0), (18, .iload_n 2, 1, 0, 0, 0), (19, .iload_n 3, 1, 0, 0, 0), (20, .invokevirtual 347, 3, 109, 3, 0), (23, .goto 5, 3, 0, 0, 0), (26, .ldc 103, 2, 0, 0, (-100000)), (28, .ireturn, 1, 0, 0, 0)]]
/-- WarmNightModel.when -/
def et_196 : List (List ex_I) := [[(0, .iload_n 1, 1, 0, 0, 0), (1, .iload_n 2, 1, 0, 0, 0), (2, .invokestatic 299, 3, 170, 2, 0), (5, .ifCond .ne 6, 3, 0, 0, 0), (8, .ldc 103, 2, 0, 0, (-100000)), (10, .ireturn, 1, 0, 0, 0), (11, .iconst 0, 1, 0, 0, 0), (12, .istore_n 3, 1, 0, 0, 0), (13, .ldc_w 308, 3, 0, 0, (-1000000))],
  [(16, .istore 4, 2, 0, 0, 0), (18, .iconst 0, 1, 0, 0, 0), (19, .istore 5, 2, 0, 0, 0), (21, .iload 5, 2, 0, 0, 0), (23, .aload_n 0, 1, 0, 0, 0), (24, .getfield 7, 3, 12, 0, 3), (27, .iconst 3, 1, 0, 0, 0), (28, .iaload, 1, 0, 0, 0), (29, .if_icmp .ge 49, 3, 0, 0, 0)],
  [(32, .aload_n 0, 1, 0, 0, 0), (33, .iload_n 1, 1, 0, 0, 0), (34, .iload_n 2, 1, 0, 0, 0), (35, .iload 5, 2, 0, 0, 0), (37, .invokevirtual 347, 3, 109, 3, 0), (40, .istore 6, 2, 0, 0, 0), (42, .iload 6, 2, 0, 0, 0), (44, .iload 4, 2, 0, 0, 0), (46, .if_icmp .le 8, 3, 0, 0, 0)],
  [(49, .iload 5, 2, 0, 0, 0), (51, .goto 4, 3, 0, 0, 0), (54, .iload_n 3, 1, 0, 0, 0), (55, .istore_n 3, 1, 0, 0, 0), (56, .iload 6, 2, 0, 0, 0), (58, .iload 4, 2, 0, 0, 0), (60, .if_icmp .le 8, 3, 0, 0, 0), (63, .iload 6, 2, 0, 0, 0)],
  [(65, .goto 5, 3, 0, 0, 0), (68, .iload 4, 2, 0, 0, 0), (70, .istore 4, 2, 0, 0, 0), (72, .iinc 5 1, 3, 0, 0, 0), (75, .goto (-54), 3, 0, 0, 0), (78, .iload_n 3, 1, 0, 0, 0), (79, .ireturn, 1, 0, 0, 0)]]
/-- WarmNightModel.part -/
def et_197 : List (List ex_I) := [[(0, .iload_n 1, 1, 0, 0, 0), (1, .ifCond .ne 10, 3, 0, 0, 0), (4, .aload_n 0, 1, 0, 0, 0), (5, .getfield 85, 3, 12, 4, 2), (8, .goto 18, 3, 0, 0, 0), (11, .iload_n 1, 1, 0, 0, 0), (12, .iconst 1, 1, 0, 0, 0), (13, .if_icmp .ne 10, 3, 0, 0, 0)],
  [(16, .aload_n 0, 1, 0, 0, 0), (17, .getfield 77, 3, 12, 5, 2), (20, .goto 6, 3, 0, 0, 0), (23, .ldc2_w 350, 3, 0, 0, (-100000)), (26, .lreturn, 1, 0, 0, 0)]]
/-- WarmNightModel.image -/
def et_198 : List (List ex_I) := [[(0, .iload_n 1, 1, 0, 0, 0), (1, .i2l, 1, 0, 0, 0), (2, .lconst 0, 1, 0, 0, 0), (3, .lconst 1, 1, 0, 0, 0), (4, .invokestatic 95, 3, 126, 3, 0), (7, .ifCond .ne 6, 3, 0, 0, 0), (10, .ldc 103, 2, 0, 0, (-100000)), (12, .ireturn, 1, 0, 0, 0), (13, .iconst 0, 1, 0, 0, 0), (14, .istore_n 2, 1, 0, 0, 0), (15, .iload_n 2, 1, 0, 0, 0)],
  [(16, .sipush 230, 3, 0, 0, 0), (19, .if_icmp .ge 27, 3, 0, 0, 0), (22, .aload_n 0, 1, 0, 0, 0), (23, .getfield 13, 3, 12, 1, 3), (26, .sipush 230, 3, 0, 0, 0), (29, .iload_n 1, 1, 0, 0, 0), (30, .imul, 1, 0, 0, 0), (31, .iload_n 2, 1, 0, 0, 0)],
  [(32, .iadd, 1, 0, 0, 0), (33, .aload_n 0, 1, 0, 0, 0), (34, .getfield 7, 3, 12, 0, 3), (37, .iload_n 2, 1, 0, 0, 0), (38, .iaload, 1, 0, 0, 0), (39, .iastore, 1, 0, 0, 0), (40, .iinc 2 1, 3, 0, 0, 0), (43, .goto (-28), 3, 0, 0, 0), (46, .aload_n 0, 1, 0, 0, 0), (47, .getfield 16, 3, 12, 2, 3)],
  [(50, .iload_n 1, 1, 0, 0, 0), (51, .iconst 1, 1, 0, 0, 0), (52, .bastore, 1, 0, 0, 0), (53, .iconst 1, 1, 0, 0, 0), (54, .ireturn, 1, 0, 0, 0)]]
/-- WarmNightModel.from -/
def et_199 : List (List ex_I) := [[(0, .iload_n 1, 1, 0, 0, 0), (1, .i2l, 1, 0, 0, 0), (2, .lconst 0, 1, 0, 0, 0), (3, .lconst 1, 1, 0, 0, 0), (4, .invokestatic 95, 3, 126, 3, 0), (7, .ifCond .ne 6, 3, 0, 0, 0), (10, .ldc 103, 2, 0, 0, (-100000)), (12, .ireturn, 1, 0, 0, 0), (13, .aload_n 0, 1, 0, 0, 0), (14, .getfield 16, 3, 12, 2, 3)],
  [(17, .iload_n 1, 1, 0, 0, 0), (18, .baload, 1, 0, 0, 0), (19, .ifCond .ne 6, 3, 0, 0, 0), (22, .ldc 88, 2, 0, 0, (-200000)), (24, .ireturn, 1, 0, 0, 0), (25, .iconst 0, 1, 0, 0, 0), (26, .istore_n 2, 1, 0, 0, 0), (27, .iload_n 2, 1, 0, 0, 0), (28, .sipush 230, 3, 0, 0, 0), (31, .if_icmp .ge 27, 3, 0, 0, 0)],
  [(34, .aload_n 0, 1, 0, 0, 0), (35, .getfield 7, 3, 12, 0, 3), (38, .iload_n 2, 1, 0, 0, 0), (39, .aload_n 0, 1, 0, 0, 0), (40, .getfield 13, 3, 12, 1, 3), (43, .sipush 230, 3, 0, 0, 0), (46, .iload_n 1, 1, 0, 0, 0), (47, .imul, 1, 0, 0, 0)],
  [(48, .iload_n 2, 1, 0, 0, 0), (49, .iadd, 1, 0, 0, 0), (50, .iaload, 1, 0, 0, 0), (51, .iastore, 1, 0, 0, 0), (52, .iinc 2 1, 3, 0, 0, 0), (55, .goto (-28), 3, 0, 0, 0), (58, .iconst 1, 1, 0, 0, 0), (59, .ireturn, 1, 0, 0, 0)]]
/-- WarmNightModel.countOf -/
def et_200 : List (List ex_I) := [[(0, .iload_n 1, 1, 0, 0, 0), (1, .ifCond .ne 13, 3, 0, 0, 0), (4, .aload_n 0, 1, 0, 0, 0), (5, .getfield 7, 3, 12, 0, 3), (8, .bipush 11, 2, 0, 0, 0), (10, .iaload, 1, 0, 0, 0), (11, .goto 37, 3, 0, 0, 0), (14, .iload_n 1, 1, 0, 0, 0), (15, .iconst 1, 1, 0, 0, 0)],
  [(16, .if_icmp .ne 13, 3, 0, 0, 0), (19, .aload_n 0, 1, 0, 0, 0), (20, .invokevirtual 291, 3, 96, 0, 0), (23, .invokestatic 332, 3, 187, 1, 0), (26, .goto 22, 3, 0, 0, 0), (29, .iload_n 1, 1, 0, 0, 0), (30, .iconst 2, 1, 0, 0, 0), (31, .if_icmp .ne 13, 3, 0, 0, 0)],
  [(34, .aload_n 0, 1, 0, 0, 0), (35, .getfield 7, 3, 12, 0, 3), (38, .bipush 12, 2, 0, 0, 0), (40, .iaload, 1, 0, 0, 0), (41, .goto 7, 3, 0, 0, 0), (44, .aload_n 0, 1, 0, 0, 0), (45, .getfield 150, 3, 12, 7, 0)],
  [(48, .ireturn, 1, 0, 0, 0)]]
/-- WarmNightModel.count -/
def et_201 : List (List ex_I) := [[(0, .iload_n 1, 1, 0, 0, 0), (1, .i2l, 1, 0, 0, 0), (2, .lconst 0, 1, 0, 0, 0), (3, .ldc2_w 200, 3, 0, 0, 3), (6, .invokestatic 95, 3, 126, 3, 0), (9, .ifCond .eq 11, 3, 0, 0, 0), (12, .aload_n 0, 1, 0, 0, 0), (13, .iload_n 1, 1, 0, 0, 0), (14, .invokevirtual 352, 3, 110, 1, 0)],
  [(17, .goto 5, 3, 0, 0, 0), (20, .ldc 103, 2, 0, 0, (-100000)), (22, .ireturn, 1, 0, 0, 0)]]
/-- WarmNightModel.mixed -/
def et_202 : List (List ex_I) := [[(0, .lload_n 1, 1, 0, 0, 0), (1, .lstore 5, 2, 0, 0, 0), (3, .iconst 0, 1, 0, 0, 0), (4, .istore 7, 2, 0, 0, 0), (6, .iload 7, 2, 0, 0, 0), (8, .iload 4, 2, 0, 0, 0), (10, .if_icmp .ge 28, 3, 0, 0, 0), (13, .ldc2_w 355, 3, 0, 0, 31)],
  [(16, .lload 5, 2, 0, 0, 0), (18, .lmul, 1, 0, 0, 0), (19, .aload_n 0, 1, 0, 0, 0), (20, .getfield 7, 3, 12, 0, 3), (23, .iload_n 3, 1, 0, 0, 0), (24, .iload 7, 2, 0, 0, 0), (26, .iadd, 1, 0, 0, 0), (27, .iaload, 1, 0, 0, 0), (28, .i2l, 1, 0, 0, 0), (29, .ladd, 1, 0, 0, 0), (30, .lstore 5, 2, 0, 0, 0)],
  [(32, .iinc 7 1, 3, 0, 0, 0), (35, .goto (-29), 3, 0, 0, 0), (38, .lload 5, 2, 0, 0, 0), (40, .lreturn, 1, 0, 0, 0)]]
/-- WarmNightModel.digest -/
def et_203 : List (List ex_I) := [[(0, .ldc2_w 357, 3, 0, 0, 547), (3, .lstore_n 1, 1, 0, 0, 0), (4, .iconst 0, 1, 0, 0, 0), (5, .istore_n 3, 1, 0, 0, 0), (6, .iload_n 3, 1, 0, 0, 0), (7, .iconst 4, 1, 0, 0, 0), (8, .if_icmp .ge 22, 3, 0, 0, 0), (11, .ldc2_w 355, 3, 0, 0, 31), (14, .lload_n 1, 1, 0, 0, 0), (15, .lmul, 1, 0, 0, 0)],
  [(16, .aload_n 0, 1, 0, 0, 0), (17, .iload_n 3, 1, 0, 0, 0), (18, .invokevirtual 352, 3, 110, 1, 0), (21, .i2l, 1, 0, 0, 0), (22, .ladd, 1, 0, 0, 0), (23, .lstore_n 1, 1, 0, 0, 0), (24, .iinc 3 1, 3, 0, 0, 0), (27, .goto (-21), 3, 0, 0, 0), (30, .aload_n 0, 1, 0, 0, 0), (31, .lload_n 1, 1, 0, 0, 0)],
  [(32, .iconst 0, 1, 0, 0, 0), (33, .bipush 11, 2, 0, 0, 0), (35, .invokevirtual 359, 3, 111, 3, 0), (38, .lstore_n 1, 1, 0, 0, 0), (39, .aload_n 0, 1, 0, 0, 0), (40, .lload_n 1, 1, 0, 0, 0), (41, .bipush 20, 2, 0, 0, 0), (43, .bipush 40, 2, 0, 0, 0), (45, .invokevirtual 359, 3, 111, 3, 0)],
  [(48, .lstore_n 1, 1, 0, 0, 0), (49, .aload_n 0, 1, 0, 0, 0), (50, .lload_n 1, 1, 0, 0, 0), (51, .bipush 60, 2, 0, 0, 0), (53, .bipush 96, 2, 0, 0, 0), (55, .invokevirtual 359, 3, 111, 3, 0), (58, .lstore_n 1, 1, 0, 0, 0), (59, .aload_n 0, 1, 0, 0, 0), (60, .lload_n 1, 1, 0, 0, 0), (61, .sipush 160, 3, 0, 0, 0)],
  [(64, .bipush 6, 2, 0, 0, 0), (66, .aload_n 0, 1, 0, 0, 0), (67, .getfield 7, 3, 12, 0, 3), (70, .bipush 11, 2, 0, 0, 0), (72, .iaload, 1, 0, 0, 0), (73, .imul, 1, 0, 0, 0), (74, .invokevirtual 359, 3, 111, 3, 0), (77, .lstore_n 1, 1, 0, 0, 0), (78, .aload_n 0, 1, 0, 0, 0), (79, .lload_n 1, 1, 0, 0, 0)],
  [(80, .sipush 210, 3, 0, 0, 0), (83, .iconst 3, 1, 0, 0, 0), (84, .aload_n 0, 1, 0, 0, 0), (85, .getfield 7, 3, 12, 0, 3), (88, .bipush 12, 2, 0, 0, 0), (90, .iaload, 1, 0, 0, 0), (91, .imul, 1, 0, 0, 0), (92, .invokevirtual 359, 3, 111, 3, 0), (95, .lstore_n 1, 1, 0, 0, 0)],
  [(96, .ldc2_w 355, 3, 0, 0, 31), (99, .ldc2_w 355, 3, 0, 0, 31), (102, .lload_n 1, 1, 0, 0, 0), (103, .lmul, 1, 0, 0, 0), (104, .aload_n 0, 1, 0, 0, 0), (105, .getfield 85, 3, 12, 4, 2), (108, .ladd, 1, 0, 0, 0), (109, .lmul, 1, 0, 0, 0), (110, .aload_n 0, 1, 0, 0, 0), (111, .getfield 77, 3, 12, 5, 2)],
  [(114, .ladd, 1, 0, 0, 0), (115, .lreturn, 1, 0, 0, 0)]]
/-- java/lang/Integer.bitCount -/
def et_204 : List (List ex_I) := [[(0, .iload_n 0, 1, 0, 0, 0), (1, .iload_n 0, 1, 0, 0, 0), (2, .iconst 1, 1, 0, 0, 0), (3, .iushr, 1, 0, 0, 0), (4, .ldc_w 265, 3, 0, 0, 1431655765), (7, .iand, 1, 0, 0, 0), (8, .isub, 1, 0, 0, 0), (9, .istore_n 0, 1, 0, 0, 0), (10, .iload_n 0, 1, 0, 0, 0), (11, .ldc_w 266, 3, 0, 0, 858993459), (14, .iand, 1, 0, 0, 0), (15, .iload_n 0, 1, 0, 0, 0)],
  [(16, .iconst 2, 1, 0, 0, 0), (17, .iushr, 1, 0, 0, 0), (18, .ldc_w 266, 3, 0, 0, 858993459), (21, .iand, 1, 0, 0, 0), (22, .iadd, 1, 0, 0, 0), (23, .istore_n 0, 1, 0, 0, 0), (24, .iload_n 0, 1, 0, 0, 0), (25, .iload_n 0, 1, 0, 0, 0), (26, .iconst 4, 1, 0, 0, 0), (27, .iushr, 1, 0, 0, 0), (28, .iadd, 1, 0, 0, 0), (29, .ldc_w 267, 3, 0, 0, 252645135)],
  [(32, .iand, 1, 0, 0, 0), (33, .istore_n 0, 1, 0, 0, 0), (34, .iload_n 0, 1, 0, 0, 0), (35, .iload_n 0, 1, 0, 0, 0), (36, .bipush 8, 2, 0, 0, 0), (38, .iushr, 1, 0, 0, 0), (39, .iadd, 1, 0, 0, 0), (40, .istore_n 0, 1, 0, 0, 0), (41, .iload_n 0, 1, 0, 0, 0), (42, .iload_n 0, 1, 0, 0, 0), (43, .bipush 16, 2, 0, 0, 0), (45, .iushr, 1, 0, 0, 0), (46, .iadd, 1, 0, 0, 0), (47, .istore_n 0, 1, 0, 0, 0)],
  [(48, .iload_n 0, 1, 0, 0, 0), (49, .bipush 63, 2, 0, 0, 0), (51, .iand, 1, 0, 0, 0), (52, .ireturn, 1, 0, 0, 0)]]
/-- java/lang/Math.floorMod -/
def et_205 : List (List ex_I) := [[(0, .iload_n 0, 1, 0, 0, 0), (1, .iload_n 1, 1, 0, 0, 0), (2, .irem, 1, 0, 0, 0), (3, .istore_n 2, 1, 0, 0, 0), (4, .iload_n 0, 1, 0, 0, 0), (5, .iload_n 1, 1, 0, 0, 0), (6, .ixor, 1, 0, 0, 0), (7, .ifCond .ge 11, 3, 0, 0, 0), (10, .iload_n 2, 1, 0, 0, 0), (11, .ifCond .eq 7, 3, 0, 0, 0), (14, .iload_n 2, 1, 0, 0, 0), (15, .iload_n 1, 1, 0, 0, 0)],
  [(16, .iadd, 1, 0, 0, 0), (17, .ireturn, 1, 0, 0, 0), (18, .iload_n 2, 1, 0, 0, 0), (19, .ireturn, 1, 0, 0, 0)]]
/-- java/lang/Math.abs -/
def et_206 : List (List ex_I) := [[(0, .iload_n 0, 1, 0, 0, 0), (1, .ifCond .ge 8, 3, 0, 0, 0), (4, .iload_n 0, 1, 0, 0, 0), (5, .ineg, 1, 0, 0, 0), (6, .goto 4, 3, 0, 0, 0), (9, .iload_n 0, 1, 0, 0, 0), (10, .ireturn, 1, 0, 0, 0)]]
/-- java/lang/Math.max -/
def et_207 : List (List ex_I) := [[(0, .iload_n 0, 1, 0, 0, 0), (1, .iload_n 1, 1, 0, 0, 0), (2, .if_icmp .lt 7, 3, 0, 0, 0), (5, .iload_n 0, 1, 0, 0, 0), (6, .goto 4, 3, 0, 0, 0), (9, .iload_n 1, 1, 0, 0, 0), (10, .ireturn, 1, 0, 0, 0)]]
/-- java/lang/Math.min -/
def et_208 : List (List ex_I) := [[(0, .iload_n 0, 1, 0, 0, 0), (1, .iload_n 1, 1, 0, 0, 0), (2, .if_icmp .gt 7, 3, 0, 0, 0), (5, .iload_n 0, 1, 0, 0, 0), (6, .goto 4, 3, 0, 0, 0), (9, .iload_n 1, 1, 0, 0, 0), (10, .ireturn, 1, 0, 0, 0)]]
/-- WarmNightLaw.law -/
def et_209 : List (List ex_I) := [[(0, .new 7, 3, 11, 0, 0), (3, .dup, 1, 0, 0, 0), (4, .invokespecial 9, 3, 84, 0, 0), (7, .astore_n 1, 1, 0, 0, 0), (8, .new 10, 3, 12, 0, 0), (11, .dup, 1, 0, 0, 0), (12, .invokespecial 12, 3, 127, 0, 0), (15, .astore_n 2, 1, 0, 0, 0)],
  [(16, .iconst 0, 1, 0, 0, 0), (17, .istore_n 3, 1, 0, 0, 0), (18, .iload_n 3, 1, 0, 0, 0), (19, .aload_n 0, 1, 0, 0, 0), (20, .arraylength, 1, 0, 0, 0), (21, .bipush 6, 2, 0, 0, 0), (23, .isub, 1, 0, 0, 0), (24, .if_icmp .gt 1398, 3, 0, 0, 0), (27, .aload_n 0, 1, 0, 0, 0), (28, .iload_n 3, 1, 0, 0, 0), (29, .iaload, 1, 0, 0, 0), (30, .bipush 63, 2, 0, 0, 0)],
  [(32, .iand, 1, 0, 0, 0), (33, .tableswitch 1383 0 33 #[151, 184, 237, 270, 319, 362, 395, 458, 507, 550, 599, 632, 695, 708, 721, 774, 827, 880, 913, 956, 989, 1012, 1025, 1068, 1111, 1144, 1177, 1200, 1243, 1276, 1300, 1323, 1346, 1369], 151, 0, 0, 0)],
  [],
  [],
  [],
  [],
  [],
  [],
  [],
  [],
  [(184, .aload_n 1, 1, 0, 0, 0), (185, .aload_n 0, 1, 0, 0, 0), (186, .iload_n 3, 1, 0, 0, 0), (187, .iconst 1, 1, 0, 0, 0), (188, .iadd, 1, 0, 0, 0), (189, .iaload, 1, 0, 0, 0), (190, .aload_n 0, 1, 0, 0, 0), (191, .iload_n 3, 1, 0, 0, 0)],
  [(192, .iconst 2, 1, 0, 0, 0), (193, .iadd, 1, 0, 0, 0), (194, .iaload, 1, 0, 0, 0), (195, .invokevirtual 13, 3, 112, 2, 0), (198, .aload_n 2, 1, 0, 0, 0), (199, .aload_n 0, 1, 0, 0, 0), (200, .iload_n 3, 1, 0, 0, 0), (201, .iconst 1, 1, 0, 0, 0), (202, .iadd, 1, 0, 0, 0), (203, .iaload, 1, 0, 0, 0), (204, .aload_n 0, 1, 0, 0, 0), (205, .iload_n 3, 1, 0, 0, 0), (206, .iconst 2, 1, 0, 0, 0), (207, .iadd, 1, 0, 0, 0)],
  [(208, .iaload, 1, 0, 0, 0), (209, .invokevirtual 17, 3, 75, 2, 0), (212, .if_icmp .eq 1204, 3, 0, 0, 0), (215, .iconst 0, 1, 0, 0, 0), (216, .ireturn, 1, 0, 0, 0), (217, .aload_n 1, 1, 0, 0, 0), (218, .aload_n 0, 1, 0, 0, 0), (219, .iload_n 3, 1, 0, 0, 0), (220, .iconst 1, 1, 0, 0, 0), (221, .iadd, 1, 0, 0, 0), (222, .iaload, 1, 0, 0, 0), (223, .aload_n 0, 1, 0, 0, 0)],
  [(224, .iload_n 3, 1, 0, 0, 0), (225, .iconst 2, 1, 0, 0, 0), (226, .iadd, 1, 0, 0, 0), (227, .iaload, 1, 0, 0, 0), (228, .aload_n 0, 1, 0, 0, 0), (229, .iload_n 3, 1, 0, 0, 0), (230, .iconst 3, 1, 0, 0, 0), (231, .iadd, 1, 0, 0, 0), (232, .iaload, 1, 0, 0, 0), (233, .aload_n 0, 1, 0, 0, 0), (234, .iload_n 3, 1, 0, 0, 0), (235, .iconst 4, 1, 0, 0, 0), (236, .iadd, 1, 0, 0, 0), (237, .iaload, 1, 0, 0, 0), (238, .invokevirtual 18, 3, 113, 4, 0)],
  [(241, .aload_n 2, 1, 0, 0, 0), (242, .aload_n 0, 1, 0, 0, 0), (243, .iload_n 3, 1, 0, 0, 0), (244, .iconst 1, 1, 0, 0, 0), (245, .iadd, 1, 0, 0, 0), (246, .iaload, 1, 0, 0, 0), (247, .aload_n 0, 1, 0, 0, 0), (248, .iload_n 3, 1, 0, 0, 0), (249, .iconst 2, 1, 0, 0, 0), (250, .iadd, 1, 0, 0, 0), (251, .iaload, 1, 0, 0, 0), (252, .aload_n 0, 1, 0, 0, 0), (253, .iload_n 3, 1, 0, 0, 0), (254, .iconst 3, 1, 0, 0, 0), (255, .iadd, 1, 0, 0, 0)],
  [(256, .iaload, 1, 0, 0, 0), (257, .aload_n 0, 1, 0, 0, 0), (258, .iload_n 3, 1, 0, 0, 0), (259, .iconst 4, 1, 0, 0, 0), (260, .iadd, 1, 0, 0, 0), (261, .iaload, 1, 0, 0, 0), (262, .invokevirtual 22, 3, 76, 4, 0), (265, .if_icmp .eq 1151, 3, 0, 0, 0), (268, .iconst 0, 1, 0, 0, 0), (269, .ireturn, 1, 0, 0, 0), (270, .aload_n 1, 1, 0, 0, 0), (271, .aload_n 0, 1, 0, 0, 0)],
  [(272, .iload_n 3, 1, 0, 0, 0), (273, .iconst 1, 1, 0, 0, 0), (274, .iadd, 1, 0, 0, 0), (275, .iaload, 1, 0, 0, 0), (276, .aload_n 0, 1, 0, 0, 0), (277, .iload_n 3, 1, 0, 0, 0), (278, .iconst 2, 1, 0, 0, 0), (279, .iadd, 1, 0, 0, 0), (280, .iaload, 1, 0, 0, 0), (281, .invokevirtual 23, 3, 114, 2, 0), (284, .aload_n 2, 1, 0, 0, 0), (285, .aload_n 0, 1, 0, 0, 0), (286, .iload_n 3, 1, 0, 0, 0), (287, .iconst 1, 1, 0, 0, 0)],
  [(288, .iadd, 1, 0, 0, 0), (289, .iaload, 1, 0, 0, 0), (290, .aload_n 0, 1, 0, 0, 0), (291, .iload_n 3, 1, 0, 0, 0), (292, .iconst 2, 1, 0, 0, 0), (293, .iadd, 1, 0, 0, 0), (294, .iaload, 1, 0, 0, 0), (295, .invokevirtual 26, 3, 77, 2, 0), (298, .if_icmp .eq 1118, 3, 0, 0, 0), (301, .iconst 0, 1, 0, 0, 0), (302, .ireturn, 1, 0, 0, 0), (303, .aload_n 1, 1, 0, 0, 0)],
  [(304, .aload_n 0, 1, 0, 0, 0), (305, .iload_n 3, 1, 0, 0, 0), (306, .iconst 1, 1, 0, 0, 0), (307, .iadd, 1, 0, 0, 0), (308, .iaload, 1, 0, 0, 0), (309, .aload_n 0, 1, 0, 0, 0), (310, .iload_n 3, 1, 0, 0, 0), (311, .iconst 2, 1, 0, 0, 0), (312, .iadd, 1, 0, 0, 0), (313, .iaload, 1, 0, 0, 0), (314, .ifCond .eq 7, 3, 0, 0, 0), (317, .iconst 1, 1, 0, 0, 0), (318, .goto 4, 3, 0, 0, 0)],
  [(321, .iconst 0, 1, 0, 0, 0), (322, .invokevirtual 27, 3, 115, 2, 0), (325, .aload_n 2, 1, 0, 0, 0), (326, .aload_n 0, 1, 0, 0, 0), (327, .iload_n 3, 1, 0, 0, 0), (328, .iconst 1, 1, 0, 0, 0), (329, .iadd, 1, 0, 0, 0), (330, .iaload, 1, 0, 0, 0), (331, .aload_n 0, 1, 0, 0, 0), (332, .iload_n 3, 1, 0, 0, 0), (333, .iconst 2, 1, 0, 0, 0), (334, .iadd, 1, 0, 0, 0), (335, .iaload, 1, 0, 0, 0)],
  [(336, .ifCond .eq 7, 3, 0, 0, 0), (339, .iconst 1, 1, 0, 0, 0), (340, .goto 4, 3, 0, 0, 0), (343, .iconst 0, 1, 0, 0, 0), (344, .invokevirtual 31, 3, 78, 2, 0), (347, .if_icmp .eq 1069, 3, 0, 0, 0), (350, .iconst 0, 1, 0, 0, 0), (351, .ireturn, 1, 0, 0, 0)],
  [(352, .aload_n 1, 1, 0, 0, 0), (353, .aload_n 0, 1, 0, 0, 0), (354, .iload_n 3, 1, 0, 0, 0), (355, .iconst 1, 1, 0, 0, 0), (356, .iadd, 1, 0, 0, 0), (357, .iaload, 1, 0, 0, 0), (358, .aload_n 0, 1, 0, 0, 0), (359, .iload_n 3, 1, 0, 0, 0), (360, .iconst 2, 1, 0, 0, 0), (361, .iadd, 1, 0, 0, 0), (362, .iaload, 1, 0, 0, 0), (363, .aload_n 0, 1, 0, 0, 0), (364, .iload_n 3, 1, 0, 0, 0), (365, .iconst 3, 1, 0, 0, 0), (366, .iadd, 1, 0, 0, 0), (367, .iaload, 1, 0, 0, 0)],
  [(368, .invokevirtual 32, 3, 116, 3, 0), (371, .aload_n 2, 1, 0, 0, 0), (372, .aload_n 0, 1, 0, 0, 0), (373, .iload_n 3, 1, 0, 0, 0), (374, .iconst 1, 1, 0, 0, 0), (375, .iadd, 1, 0, 0, 0), (376, .iaload, 1, 0, 0, 0), (377, .aload_n 0, 1, 0, 0, 0), (378, .iload_n 3, 1, 0, 0, 0), (379, .iconst 2, 1, 0, 0, 0), (380, .iadd, 1, 0, 0, 0), (381, .iaload, 1, 0, 0, 0), (382, .aload_n 0, 1, 0, 0, 0), (383, .iload_n 3, 1, 0, 0, 0)],
  [(384, .iconst 3, 1, 0, 0, 0), (385, .iadd, 1, 0, 0, 0), (386, .iaload, 1, 0, 0, 0), (387, .invokevirtual 36, 3, 79, 3, 0), (390, .if_icmp .eq 1026, 3, 0, 0, 0), (393, .iconst 0, 1, 0, 0, 0), (394, .ireturn, 1, 0, 0, 0), (395, .aload_n 1, 1, 0, 0, 0), (396, .aload_n 0, 1, 0, 0, 0), (397, .iload_n 3, 1, 0, 0, 0), (398, .iconst 1, 1, 0, 0, 0), (399, .iadd, 1, 0, 0, 0)],
  [(400, .iaload, 1, 0, 0, 0), (401, .aload_n 0, 1, 0, 0, 0), (402, .iload_n 3, 1, 0, 0, 0), (403, .iconst 2, 1, 0, 0, 0), (404, .iadd, 1, 0, 0, 0), (405, .iaload, 1, 0, 0, 0), (406, .invokevirtual 37, 3, 117, 2, 0), (409, .aload_n 2, 1, 0, 0, 0), (410, .aload_n 0, 1, 0, 0, 0), (411, .iload_n 3, 1, 0, 0, 0), (412, .iconst 1, 1, 0, 0, 0), (413, .iadd, 1, 0, 0, 0), (414, .iaload, 1, 0, 0, 0), (415, .aload_n 0, 1, 0, 0, 0)],
  [(416, .iload_n 3, 1, 0, 0, 0), (417, .iconst 2, 1, 0, 0, 0), (418, .iadd, 1, 0, 0, 0), (419, .iaload, 1, 0, 0, 0), (420, .invokevirtual 40, 3, 80, 2, 0), (423, .if_icmp .eq 993, 3, 0, 0, 0), (426, .iconst 0, 1, 0, 0, 0), (427, .ireturn, 1, 0, 0, 0), (428, .aload_n 1, 1, 0, 0, 0), (429, .aload_n 0, 1, 0, 0, 0), (430, .iload_n 3, 1, 0, 0, 0), (431, .iconst 1, 1, 0, 0, 0)],
  [(432, .iadd, 1, 0, 0, 0), (433, .iaload, 1, 0, 0, 0), (434, .aload_n 0, 1, 0, 0, 0), (435, .iload_n 3, 1, 0, 0, 0), (436, .iconst 2, 1, 0, 0, 0), (437, .iadd, 1, 0, 0, 0), (438, .iaload, 1, 0, 0, 0), (439, .aload_n 0, 1, 0, 0, 0), (440, .iload_n 3, 1, 0, 0, 0), (441, .iconst 3, 1, 0, 0, 0), (442, .iadd, 1, 0, 0, 0), (443, .iaload, 1, 0, 0, 0), (444, .aload_n 0, 1, 0, 0, 0), (445, .iload_n 3, 1, 0, 0, 0), (446, .iconst 4, 1, 0, 0, 0), (447, .iadd, 1, 0, 0, 0)],
  [(448, .iaload, 1, 0, 0, 0), (449, .aload_n 0, 1, 0, 0, 0), (450, .iload_n 3, 1, 0, 0, 0), (451, .iconst 5, 1, 0, 0, 0), (452, .iadd, 1, 0, 0, 0), (453, .iaload, 1, 0, 0, 0), (454, .invokevirtual 41, 3, 118, 5, 0), (457, .aload_n 2, 1, 0, 0, 0), (458, .aload_n 0, 1, 0, 0, 0), (459, .iload_n 3, 1, 0, 0, 0), (460, .iconst 1, 1, 0, 0, 0), (461, .iadd, 1, 0, 0, 0), (462, .iaload, 1, 0, 0, 0), (463, .aload_n 0, 1, 0, 0, 0)],
  [(464, .iload_n 3, 1, 0, 0, 0), (465, .iconst 2, 1, 0, 0, 0), (466, .iadd, 1, 0, 0, 0), (467, .iaload, 1, 0, 0, 0), (468, .aload_n 0, 1, 0, 0, 0), (469, .iload_n 3, 1, 0, 0, 0), (470, .iconst 3, 1, 0, 0, 0), (471, .iadd, 1, 0, 0, 0), (472, .iaload, 1, 0, 0, 0), (473, .aload_n 0, 1, 0, 0, 0), (474, .iload_n 3, 1, 0, 0, 0), (475, .iconst 4, 1, 0, 0, 0), (476, .iadd, 1, 0, 0, 0), (477, .iaload, 1, 0, 0, 0), (478, .aload_n 0, 1, 0, 0, 0), (479, .iload_n 3, 1, 0, 0, 0)],
  [(480, .iconst 5, 1, 0, 0, 0), (481, .iadd, 1, 0, 0, 0), (482, .iaload, 1, 0, 0, 0), (483, .invokevirtual 45, 3, 81, 5, 0), (486, .if_icmp .eq 930, 3, 0, 0, 0), (489, .iconst 0, 1, 0, 0, 0), (490, .ireturn, 1, 0, 0, 0), (491, .aload_n 1, 1, 0, 0, 0), (492, .aload_n 0, 1, 0, 0, 0), (493, .iload_n 3, 1, 0, 0, 0), (494, .iconst 1, 1, 0, 0, 0), (495, .iadd, 1, 0, 0, 0)],
  [(496, .iaload, 1, 0, 0, 0), (497, .aload_n 0, 1, 0, 0, 0), (498, .iload_n 3, 1, 0, 0, 0), (499, .iconst 2, 1, 0, 0, 0), (500, .iadd, 1, 0, 0, 0), (501, .iaload, 1, 0, 0, 0), (502, .ifCond .eq 7, 3, 0, 0, 0), (505, .iconst 1, 1, 0, 0, 0), (506, .goto 4, 3, 0, 0, 0), (509, .iconst 0, 1, 0, 0, 0), (510, .invokevirtual 46, 3, 119, 2, 0)],
  [(513, .aload_n 2, 1, 0, 0, 0), (514, .aload_n 0, 1, 0, 0, 0), (515, .iload_n 3, 1, 0, 0, 0), (516, .iconst 1, 1, 0, 0, 0), (517, .iadd, 1, 0, 0, 0), (518, .iaload, 1, 0, 0, 0), (519, .aload_n 0, 1, 0, 0, 0), (520, .iload_n 3, 1, 0, 0, 0), (521, .iconst 2, 1, 0, 0, 0), (522, .iadd, 1, 0, 0, 0), (523, .iaload, 1, 0, 0, 0), (524, .ifCond .eq 7, 3, 0, 0, 0), (527, .iconst 1, 1, 0, 0, 0)],
  [(528, .goto 4, 3, 0, 0, 0), (531, .iconst 0, 1, 0, 0, 0), (532, .invokevirtual 49, 3, 82, 2, 0), (535, .if_icmp .eq 881, 3, 0, 0, 0), (538, .iconst 0, 1, 0, 0, 0), (539, .ireturn, 1, 0, 0, 0), (540, .aload_n 1, 1, 0, 0, 0), (541, .aload_n 0, 1, 0, 0, 0), (542, .iload_n 3, 1, 0, 0, 0), (543, .iconst 1, 1, 0, 0, 0)],
  [(544, .iadd, 1, 0, 0, 0), (545, .iaload, 1, 0, 0, 0), (546, .aload_n 0, 1, 0, 0, 0), (547, .iload_n 3, 1, 0, 0, 0), (548, .iconst 2, 1, 0, 0, 0), (549, .iadd, 1, 0, 0, 0), (550, .iaload, 1, 0, 0, 0), (551, .aload_n 0, 1, 0, 0, 0), (552, .iload_n 3, 1, 0, 0, 0), (553, .iconst 3, 1, 0, 0, 0), (554, .iadd, 1, 0, 0, 0), (555, .iaload, 1, 0, 0, 0), (556, .invokevirtual 50, 3, 120, 3, 0), (559, .aload_n 2, 1, 0, 0, 0)],
  [(560, .aload_n 0, 1, 0, 0, 0), (561, .iload_n 3, 1, 0, 0, 0), (562, .iconst 1, 1, 0, 0, 0), (563, .iadd, 1, 0, 0, 0), (564, .iaload, 1, 0, 0, 0), (565, .aload_n 0, 1, 0, 0, 0), (566, .iload_n 3, 1, 0, 0, 0), (567, .iconst 2, 1, 0, 0, 0), (568, .iadd, 1, 0, 0, 0), (569, .iaload, 1, 0, 0, 0), (570, .aload_n 0, 1, 0, 0, 0), (571, .iload_n 3, 1, 0, 0, 0), (572, .iconst 3, 1, 0, 0, 0), (573, .iadd, 1, 0, 0, 0), (574, .iaload, 1, 0, 0, 0), (575, .invokevirtual 53, 3, 83, 3, 0)],
  [(578, .if_icmp .eq 838, 3, 0, 0, 0), (581, .iconst 0, 1, 0, 0, 0), (582, .ireturn, 1, 0, 0, 0), (583, .aload_n 1, 1, 0, 0, 0), (584, .aload_n 0, 1, 0, 0, 0), (585, .iload_n 3, 1, 0, 0, 0), (586, .iconst 1, 1, 0, 0, 0), (587, .iadd, 1, 0, 0, 0), (588, .iaload, 1, 0, 0, 0), (589, .aload_n 0, 1, 0, 0, 0), (590, .iload_n 3, 1, 0, 0, 0), (591, .iconst 2, 1, 0, 0, 0)],
  [(592, .iadd, 1, 0, 0, 0), (593, .iaload, 1, 0, 0, 0), (594, .ifCond .eq 7, 3, 0, 0, 0), (597, .iconst 1, 1, 0, 0, 0), (598, .goto 4, 3, 0, 0, 0), (601, .iconst 0, 1, 0, 0, 0), (602, .invokevirtual 54, 3, 121, 2, 0), (605, .aload_n 2, 1, 0, 0, 0), (606, .aload_n 0, 1, 0, 0, 0), (607, .iload_n 3, 1, 0, 0, 0)],
  [(608, .iconst 1, 1, 0, 0, 0), (609, .iadd, 1, 0, 0, 0), (610, .iaload, 1, 0, 0, 0), (611, .aload_n 0, 1, 0, 0, 0), (612, .iload_n 3, 1, 0, 0, 0), (613, .iconst 2, 1, 0, 0, 0), (614, .iadd, 1, 0, 0, 0), (615, .iaload, 1, 0, 0, 0), (616, .ifCond .eq 7, 3, 0, 0, 0), (619, .iconst 1, 1, 0, 0, 0), (620, .goto 4, 3, 0, 0, 0), (623, .iconst 0, 1, 0, 0, 0)],
  [(624, .invokevirtual 57, 3, 84, 2, 0), (627, .if_icmp .eq 789, 3, 0, 0, 0), (630, .iconst 0, 1, 0, 0, 0), (631, .ireturn, 1, 0, 0, 0), (632, .aload_n 1, 1, 0, 0, 0), (633, .aload_n 0, 1, 0, 0, 0), (634, .iload_n 3, 1, 0, 0, 0), (635, .iconst 1, 1, 0, 0, 0), (636, .iadd, 1, 0, 0, 0), (637, .iaload, 1, 0, 0, 0), (638, .aload_n 0, 1, 0, 0, 0), (639, .iload_n 3, 1, 0, 0, 0)],
  [(640, .iconst 2, 1, 0, 0, 0), (641, .iadd, 1, 0, 0, 0), (642, .iaload, 1, 0, 0, 0), (643, .invokevirtual 58, 3, 122, 2, 0), (646, .aload_n 2, 1, 0, 0, 0), (647, .aload_n 0, 1, 0, 0, 0), (648, .iload_n 3, 1, 0, 0, 0), (649, .iconst 1, 1, 0, 0, 0), (650, .iadd, 1, 0, 0, 0), (651, .iaload, 1, 0, 0, 0), (652, .aload_n 0, 1, 0, 0, 0), (653, .iload_n 3, 1, 0, 0, 0), (654, .iconst 2, 1, 0, 0, 0), (655, .iadd, 1, 0, 0, 0)],
  [(656, .iaload, 1, 0, 0, 0), (657, .invokevirtual 61, 3, 123, 2, 0), (660, .if_icmp .eq 756, 3, 0, 0, 0), (663, .iconst 0, 1, 0, 0, 0), (664, .ireturn, 1, 0, 0, 0), (665, .aload_n 1, 1, 0, 0, 0), (666, .aload_n 0, 1, 0, 0, 0), (667, .iload_n 3, 1, 0, 0, 0), (668, .iconst 1, 1, 0, 0, 0), (669, .iadd, 1, 0, 0, 0), (670, .iaload, 1, 0, 0, 0), (671, .i2l, 1, 0, 0, 0)],
  [(672, .bipush 32, 2, 0, 0, 0), (674, .lshl, 1, 0, 0, 0), (675, .aload_n 0, 1, 0, 0, 0), (676, .iload_n 3, 1, 0, 0, 0), (677, .iconst 2, 1, 0, 0, 0), (678, .iadd, 1, 0, 0, 0), (679, .iaload, 1, 0, 0, 0), (680, .i2l, 1, 0, 0, 0), (681, .ldc2_w 62, 3, 0, 0, 4294967295), (684, .land, 1, 0, 0, 0), (685, .lor, 1, 0, 0, 0), (686, .aload_n 0, 1, 0, 0, 0), (687, .iload_n 3, 1, 0, 0, 0)],
  [(688, .iconst 3, 1, 0, 0, 0), (689, .iadd, 1, 0, 0, 0), (690, .iaload, 1, 0, 0, 0), (691, .invokevirtual 64, 3, 124, 2, 0), (694, .aload_n 2, 1, 0, 0, 0), (695, .aload_n 0, 1, 0, 0, 0), (696, .iload_n 3, 1, 0, 0, 0), (697, .iconst 1, 1, 0, 0, 0), (698, .iadd, 1, 0, 0, 0), (699, .iaload, 1, 0, 0, 0), (700, .i2l, 1, 0, 0, 0), (701, .bipush 32, 2, 0, 0, 0), (703, .lshl, 1, 0, 0, 0)],
  [(704, .aload_n 0, 1, 0, 0, 0), (705, .iload_n 3, 1, 0, 0, 0), (706, .iconst 2, 1, 0, 0, 0), (707, .iadd, 1, 0, 0, 0), (708, .iaload, 1, 0, 0, 0), (709, .i2l, 1, 0, 0, 0), (710, .ldc2_w 62, 3, 0, 0, 4294967295), (713, .land, 1, 0, 0, 0), (714, .lor, 1, 0, 0, 0), (715, .aload_n 0, 1, 0, 0, 0), (716, .iload_n 3, 1, 0, 0, 0), (717, .iconst 3, 1, 0, 0, 0), (718, .iadd, 1, 0, 0, 0), (719, .iaload, 1, 0, 0, 0)],
  [(720, .invokevirtual 68, 3, 125, 2, 0), (723, .if_icmp .eq 693, 3, 0, 0, 0), (726, .iconst 0, 1, 0, 0, 0), (727, .ireturn, 1, 0, 0, 0), (728, .aload_n 1, 1, 0, 0, 0), (729, .invokevirtual 69, 3, 126, 0, 0), (732, .aload_n 2, 1, 0, 0, 0), (733, .invokevirtual 73, 3, 127, 0, 0)],
  [(736, .if_icmp .eq 680, 3, 0, 0, 0), (739, .iconst 0, 1, 0, 0, 0), (740, .ireturn, 1, 0, 0, 0), (741, .aload_n 1, 1, 0, 0, 0), (742, .invokevirtual 74, 3, 128, 0, 0), (745, .aload_n 2, 1, 0, 0, 0), (746, .invokevirtual 77, 3, 129, 0, 0), (749, .if_icmp .eq 667, 3, 0, 0, 0)],
  [(752, .iconst 0, 1, 0, 0, 0), (753, .ireturn, 1, 0, 0, 0), (754, .aload_n 1, 1, 0, 0, 0), (755, .aload_n 0, 1, 0, 0, 0), (756, .iload_n 3, 1, 0, 0, 0), (757, .iconst 1, 1, 0, 0, 0), (758, .iadd, 1, 0, 0, 0), (759, .iaload, 1, 0, 0, 0), (760, .aload_n 0, 1, 0, 0, 0), (761, .iload_n 3, 1, 0, 0, 0), (762, .iconst 2, 1, 0, 0, 0), (763, .iadd, 1, 0, 0, 0), (764, .iaload, 1, 0, 0, 0), (765, .aload_n 0, 1, 0, 0, 0), (766, .iload_n 3, 1, 0, 0, 0), (767, .iconst 3, 1, 0, 0, 0)],
  [(768, .iadd, 1, 0, 0, 0), (769, .iaload, 1, 0, 0, 0), (770, .aload_n 0, 1, 0, 0, 0), (771, .iload_n 3, 1, 0, 0, 0), (772, .iconst 4, 1, 0, 0, 0), (773, .iadd, 1, 0, 0, 0), (774, .iaload, 1, 0, 0, 0), (775, .invokevirtual 78, 3, 130, 4, 0), (778, .aload_n 2, 1, 0, 0, 0), (779, .aload_n 0, 1, 0, 0, 0), (780, .iload_n 3, 1, 0, 0, 0), (781, .iconst 1, 1, 0, 0, 0), (782, .iadd, 1, 0, 0, 0), (783, .iaload, 1, 0, 0, 0)],
  [(784, .aload_n 0, 1, 0, 0, 0), (785, .iload_n 3, 1, 0, 0, 0), (786, .iconst 2, 1, 0, 0, 0), (787, .iadd, 1, 0, 0, 0), (788, .iaload, 1, 0, 0, 0), (789, .aload_n 0, 1, 0, 0, 0), (790, .iload_n 3, 1, 0, 0, 0), (791, .iconst 3, 1, 0, 0, 0), (792, .iadd, 1, 0, 0, 0), (793, .iaload, 1, 0, 0, 0), (794, .aload_n 0, 1, 0, 0, 0), (795, .iload_n 3, 1, 0, 0, 0), (796, .iconst 4, 1, 0, 0, 0), (797, .iadd, 1, 0, 0, 0), (798, .iaload, 1, 0, 0, 0), (799, .invokevirtual 81, 3, 131, 4, 0)],
  [(802, .if_icmp .eq 614, 3, 0, 0, 0), (805, .iconst 0, 1, 0, 0, 0), (806, .ireturn, 1, 0, 0, 0), (807, .aload_n 1, 1, 0, 0, 0), (808, .aload_n 0, 1, 0, 0, 0), (809, .iload_n 3, 1, 0, 0, 0), (810, .iconst 1, 1, 0, 0, 0), (811, .iadd, 1, 0, 0, 0), (812, .iaload, 1, 0, 0, 0), (813, .aload_n 0, 1, 0, 0, 0), (814, .iload_n 3, 1, 0, 0, 0), (815, .iconst 2, 1, 0, 0, 0)],
  [(816, .iadd, 1, 0, 0, 0), (817, .iaload, 1, 0, 0, 0), (818, .aload_n 0, 1, 0, 0, 0), (819, .iload_n 3, 1, 0, 0, 0), (820, .iconst 3, 1, 0, 0, 0), (821, .iadd, 1, 0, 0, 0), (822, .iaload, 1, 0, 0, 0), (823, .aload_n 0, 1, 0, 0, 0), (824, .iload_n 3, 1, 0, 0, 0), (825, .iconst 4, 1, 0, 0, 0), (826, .iadd, 1, 0, 0, 0), (827, .iaload, 1, 0, 0, 0), (828, .invokevirtual 82, 3, 132, 4, 0), (831, .aload_n 2, 1, 0, 0, 0)],
  [(832, .aload_n 0, 1, 0, 0, 0), (833, .iload_n 3, 1, 0, 0, 0), (834, .iconst 1, 1, 0, 0, 0), (835, .iadd, 1, 0, 0, 0), (836, .iaload, 1, 0, 0, 0), (837, .aload_n 0, 1, 0, 0, 0), (838, .iload_n 3, 1, 0, 0, 0), (839, .iconst 2, 1, 0, 0, 0), (840, .iadd, 1, 0, 0, 0), (841, .iaload, 1, 0, 0, 0), (842, .aload_n 0, 1, 0, 0, 0), (843, .iload_n 3, 1, 0, 0, 0), (844, .iconst 3, 1, 0, 0, 0), (845, .iadd, 1, 0, 0, 0), (846, .iaload, 1, 0, 0, 0), (847, .aload_n 0, 1, 0, 0, 0)],
  [(848, .iload_n 3, 1, 0, 0, 0), (849, .iconst 4, 1, 0, 0, 0), (850, .iadd, 1, 0, 0, 0), (851, .iaload, 1, 0, 0, 0), (852, .invokevirtual 85, 3, 133, 4, 0), (855, .if_icmp .eq 561, 3, 0, 0, 0), (858, .iconst 0, 1, 0, 0, 0), (859, .ireturn, 1, 0, 0, 0), (860, .aload_n 1, 1, 0, 0, 0), (861, .aload_n 0, 1, 0, 0, 0), (862, .iload_n 3, 1, 0, 0, 0), (863, .iconst 1, 1, 0, 0, 0)],
  [(864, .iadd, 1, 0, 0, 0), (865, .iaload, 1, 0, 0, 0), (866, .aload_n 0, 1, 0, 0, 0), (867, .iload_n 3, 1, 0, 0, 0), (868, .iconst 2, 1, 0, 0, 0), (869, .iadd, 1, 0, 0, 0), (870, .iaload, 1, 0, 0, 0), (871, .aload_n 0, 1, 0, 0, 0), (872, .iload_n 3, 1, 0, 0, 0), (873, .iconst 3, 1, 0, 0, 0), (874, .iadd, 1, 0, 0, 0), (875, .iaload, 1, 0, 0, 0), (876, .aload_n 0, 1, 0, 0, 0), (877, .iload_n 3, 1, 0, 0, 0), (878, .iconst 4, 1, 0, 0, 0), (879, .iadd, 1, 0, 0, 0)],
  [(880, .iaload, 1, 0, 0, 0), (881, .invokevirtual 86, 3, 134, 4, 0), (884, .aload_n 2, 1, 0, 0, 0), (885, .aload_n 0, 1, 0, 0, 0), (886, .iload_n 3, 1, 0, 0, 0), (887, .iconst 1, 1, 0, 0, 0), (888, .iadd, 1, 0, 0, 0), (889, .iaload, 1, 0, 0, 0), (890, .aload_n 0, 1, 0, 0, 0), (891, .iload_n 3, 1, 0, 0, 0), (892, .iconst 2, 1, 0, 0, 0), (893, .iadd, 1, 0, 0, 0), (894, .iaload, 1, 0, 0, 0), (895, .aload_n 0, 1, 0, 0, 0)],
  [(896, .iload_n 3, 1, 0, 0, 0), (897, .iconst 3, 1, 0, 0, 0), (898, .iadd, 1, 0, 0, 0), (899, .iaload, 1, 0, 0, 0), (900, .aload_n 0, 1, 0, 0, 0), (901, .iload_n 3, 1, 0, 0, 0), (902, .iconst 4, 1, 0, 0, 0), (903, .iadd, 1, 0, 0, 0), (904, .iaload, 1, 0, 0, 0), (905, .invokevirtual 89, 3, 135, 4, 0), (908, .if_icmp .eq 508, 3, 0, 0, 0), (911, .iconst 0, 1, 0, 0, 0)],
  [(912, .ireturn, 1, 0, 0, 0), (913, .aload_n 1, 1, 0, 0, 0), (914, .aload_n 0, 1, 0, 0, 0), (915, .iload_n 3, 1, 0, 0, 0), (916, .iconst 1, 1, 0, 0, 0), (917, .iadd, 1, 0, 0, 0), (918, .iaload, 1, 0, 0, 0), (919, .aload_n 0, 1, 0, 0, 0), (920, .iload_n 3, 1, 0, 0, 0), (921, .iconst 2, 1, 0, 0, 0), (922, .iadd, 1, 0, 0, 0), (923, .iaload, 1, 0, 0, 0), (924, .invokevirtual 90, 3, 136, 2, 0), (927, .aload_n 2, 1, 0, 0, 0)],
  [(928, .aload_n 0, 1, 0, 0, 0), (929, .iload_n 3, 1, 0, 0, 0), (930, .iconst 1, 1, 0, 0, 0), (931, .iadd, 1, 0, 0, 0), (932, .iaload, 1, 0, 0, 0), (933, .aload_n 0, 1, 0, 0, 0), (934, .iload_n 3, 1, 0, 0, 0), (935, .iconst 2, 1, 0, 0, 0), (936, .iadd, 1, 0, 0, 0), (937, .iaload, 1, 0, 0, 0), (938, .invokevirtual 93, 3, 137, 2, 0), (941, .if_icmp .eq 475, 3, 0, 0, 0)],
  [(944, .iconst 0, 1, 0, 0, 0), (945, .ireturn, 1, 0, 0, 0), (946, .aload_n 1, 1, 0, 0, 0), (947, .aload_n 0, 1, 0, 0, 0), (948, .iload_n 3, 1, 0, 0, 0), (949, .iconst 1, 1, 0, 0, 0), (950, .iadd, 1, 0, 0, 0), (951, .iaload, 1, 0, 0, 0), (952, .aload_n 0, 1, 0, 0, 0), (953, .iload_n 3, 1, 0, 0, 0), (954, .iconst 2, 1, 0, 0, 0), (955, .iadd, 1, 0, 0, 0), (956, .iaload, 1, 0, 0, 0), (957, .aload_n 0, 1, 0, 0, 0), (958, .iload_n 3, 1, 0, 0, 0), (959, .iconst 3, 1, 0, 0, 0)],
  [(960, .iadd, 1, 0, 0, 0), (961, .iaload, 1, 0, 0, 0), (962, .invokevirtual 94, 3, 138, 3, 0), (965, .aload_n 2, 1, 0, 0, 0), (966, .aload_n 0, 1, 0, 0, 0), (967, .iload_n 3, 1, 0, 0, 0), (968, .iconst 1, 1, 0, 0, 0), (969, .iadd, 1, 0, 0, 0), (970, .iaload, 1, 0, 0, 0), (971, .aload_n 0, 1, 0, 0, 0), (972, .iload_n 3, 1, 0, 0, 0), (973, .iconst 2, 1, 0, 0, 0), (974, .iadd, 1, 0, 0, 0), (975, .iaload, 1, 0, 0, 0)],
  [(976, .aload_n 0, 1, 0, 0, 0), (977, .iload_n 3, 1, 0, 0, 0), (978, .iconst 3, 1, 0, 0, 0), (979, .iadd, 1, 0, 0, 0), (980, .iaload, 1, 0, 0, 0), (981, .invokevirtual 97, 3, 139, 3, 0), (984, .if_icmp .eq 432, 3, 0, 0, 0), (987, .iconst 0, 1, 0, 0, 0), (988, .ireturn, 1, 0, 0, 0), (989, .aload_n 1, 1, 0, 0, 0), (990, .aload_n 0, 1, 0, 0, 0), (991, .iload_n 3, 1, 0, 0, 0)],
  [(992, .iconst 1, 1, 0, 0, 0), (993, .iadd, 1, 0, 0, 0), (994, .iaload, 1, 0, 0, 0), (995, .aload_n 0, 1, 0, 0, 0), (996, .iload_n 3, 1, 0, 0, 0), (997, .iconst 2, 1, 0, 0, 0), (998, .iadd, 1, 0, 0, 0), (999, .iaload, 1, 0, 0, 0), (1000, .invokevirtual 98, 3, 140, 2, 0), (1003, .aload_n 2, 1, 0, 0, 0), (1004, .aload_n 0, 1, 0, 0, 0), (1005, .iload_n 3, 1, 0, 0, 0), (1006, .iconst 1, 1, 0, 0, 0), (1007, .iadd, 1, 0, 0, 0)],
  [(1008, .iaload, 1, 0, 0, 0), (1009, .aload_n 0, 1, 0, 0, 0), (1010, .iload_n 3, 1, 0, 0, 0), (1011, .iconst 2, 1, 0, 0, 0), (1012, .iadd, 1, 0, 0, 0), (1013, .iaload, 1, 0, 0, 0), (1014, .invokevirtual 101, 3, 141, 2, 0), (1017, .if_icmp .eq 399, 3, 0, 0, 0), (1020, .iconst 0, 1, 0, 0, 0), (1021, .ireturn, 1, 0, 0, 0), (1022, .aload_n 1, 1, 0, 0, 0), (1023, .aload_n 0, 1, 0, 0, 0)],
  [(1024, .iload_n 3, 1, 0, 0, 0), (1025, .iconst 1, 1, 0, 0, 0), (1026, .iadd, 1, 0, 0, 0), (1027, .iaload, 1, 0, 0, 0), (1028, .invokevirtual 102, 3, 142, 1, 0), (1031, .aload_n 2, 1, 0, 0, 0), (1032, .aload_n 0, 1, 0, 0, 0), (1033, .iload_n 3, 1, 0, 0, 0), (1034, .iconst 1, 1, 0, 0, 0), (1035, .iadd, 1, 0, 0, 0), (1036, .iaload, 1, 0, 0, 0), (1037, .invokevirtual 106, 3, 143, 1, 0)],
  [(1040, .if_icmp .eq 376, 3, 0, 0, 0), (1043, .iconst 0, 1, 0, 0, 0), (1044, .ireturn, 1, 0, 0, 0), (1045, .aload_n 1, 1, 0, 0, 0), (1046, .invokevirtual 107, 3, 144, 0, 0), (1049, .aload_n 2, 1, 0, 0, 0), (1050, .invokevirtual 110, 3, 145, 0, 0), (1053, .if_icmp .eq 363, 3, 0, 0, 0)],
  [(1056, .iconst 0, 1, 0, 0, 0), (1057, .ireturn, 1, 0, 0, 0), (1058, .aload_n 1, 1, 0, 0, 0), (1059, .aload_n 0, 1, 0, 0, 0), (1060, .iload_n 3, 1, 0, 0, 0), (1061, .iconst 1, 1, 0, 0, 0), (1062, .iadd, 1, 0, 0, 0), (1063, .iaload, 1, 0, 0, 0), (1064, .aload_n 0, 1, 0, 0, 0), (1065, .iload_n 3, 1, 0, 0, 0), (1066, .iconst 2, 1, 0, 0, 0), (1067, .iadd, 1, 0, 0, 0), (1068, .iaload, 1, 0, 0, 0), (1069, .aload_n 0, 1, 0, 0, 0), (1070, .iload_n 3, 1, 0, 0, 0), (1071, .iconst 3, 1, 0, 0, 0)],
  [(1072, .iadd, 1, 0, 0, 0), (1073, .iaload, 1, 0, 0, 0), (1074, .invokevirtual 111, 3, 146, 3, 0), (1077, .aload_n 2, 1, 0, 0, 0), (1078, .aload_n 0, 1, 0, 0, 0), (1079, .iload_n 3, 1, 0, 0, 0), (1080, .iconst 1, 1, 0, 0, 0), (1081, .iadd, 1, 0, 0, 0), (1082, .iaload, 1, 0, 0, 0), (1083, .aload_n 0, 1, 0, 0, 0), (1084, .iload_n 3, 1, 0, 0, 0), (1085, .iconst 2, 1, 0, 0, 0), (1086, .iadd, 1, 0, 0, 0), (1087, .iaload, 1, 0, 0, 0)],
  [(1088, .aload_n 0, 1, 0, 0, 0), (1089, .iload_n 3, 1, 0, 0, 0), (1090, .iconst 3, 1, 0, 0, 0), (1091, .iadd, 1, 0, 0, 0), (1092, .iaload, 1, 0, 0, 0), (1093, .invokevirtual 114, 3, 147, 3, 0), (1096, .if_icmp .eq 320, 3, 0, 0, 0), (1099, .iconst 0, 1, 0, 0, 0), (1100, .ireturn, 1, 0, 0, 0), (1101, .aload_n 1, 1, 0, 0, 0), (1102, .aload_n 0, 1, 0, 0, 0), (1103, .iload_n 3, 1, 0, 0, 0)],
  [(1104, .iconst 1, 1, 0, 0, 0), (1105, .iadd, 1, 0, 0, 0), (1106, .iaload, 1, 0, 0, 0), (1107, .aload_n 0, 1, 0, 0, 0), (1108, .iload_n 3, 1, 0, 0, 0), (1109, .iconst 2, 1, 0, 0, 0), (1110, .iadd, 1, 0, 0, 0), (1111, .iaload, 1, 0, 0, 0), (1112, .aload_n 0, 1, 0, 0, 0), (1113, .iload_n 3, 1, 0, 0, 0), (1114, .iconst 3, 1, 0, 0, 0), (1115, .iadd, 1, 0, 0, 0), (1116, .iaload, 1, 0, 0, 0), (1117, .invokevirtual 115, 3, 148, 3, 0)],
  [(1120, .aload_n 2, 1, 0, 0, 0), (1121, .aload_n 0, 1, 0, 0, 0), (1122, .iload_n 3, 1, 0, 0, 0), (1123, .iconst 1, 1, 0, 0, 0), (1124, .iadd, 1, 0, 0, 0), (1125, .iaload, 1, 0, 0, 0), (1126, .aload_n 0, 1, 0, 0, 0), (1127, .iload_n 3, 1, 0, 0, 0), (1128, .iconst 2, 1, 0, 0, 0), (1129, .iadd, 1, 0, 0, 0), (1130, .iaload, 1, 0, 0, 0), (1131, .aload_n 0, 1, 0, 0, 0), (1132, .iload_n 3, 1, 0, 0, 0), (1133, .iconst 3, 1, 0, 0, 0), (1134, .iadd, 1, 0, 0, 0), (1135, .iaload, 1, 0, 0, 0)],
  [(1136, .invokevirtual 118, 3, 149, 3, 0), (1139, .if_icmp .eq 277, 3, 0, 0, 0), (1142, .iconst 0, 1, 0, 0, 0), (1143, .ireturn, 1, 0, 0, 0), (1144, .aload_n 1, 1, 0, 0, 0), (1145, .aload_n 0, 1, 0, 0, 0), (1146, .iload_n 3, 1, 0, 0, 0), (1147, .iconst 1, 1, 0, 0, 0), (1148, .iadd, 1, 0, 0, 0), (1149, .iaload, 1, 0, 0, 0), (1150, .aload_n 0, 1, 0, 0, 0), (1151, .iload_n 3, 1, 0, 0, 0)],
  [(1152, .iconst 2, 1, 0, 0, 0), (1153, .iadd, 1, 0, 0, 0), (1154, .iaload, 1, 0, 0, 0), (1155, .invokevirtual 119, 3, 150, 2, 0), (1158, .aload_n 2, 1, 0, 0, 0), (1159, .aload_n 0, 1, 0, 0, 0), (1160, .iload_n 3, 1, 0, 0, 0), (1161, .iconst 1, 1, 0, 0, 0), (1162, .iadd, 1, 0, 0, 0), (1163, .iaload, 1, 0, 0, 0), (1164, .aload_n 0, 1, 0, 0, 0), (1165, .iload_n 3, 1, 0, 0, 0), (1166, .iconst 2, 1, 0, 0, 0), (1167, .iadd, 1, 0, 0, 0)],
  [(1168, .iaload, 1, 0, 0, 0), (1169, .invokevirtual 122, 3, 151, 2, 0), (1172, .if_icmp .eq 244, 3, 0, 0, 0), (1175, .iconst 0, 1, 0, 0, 0), (1176, .ireturn, 1, 0, 0, 0), (1177, .aload_n 1, 1, 0, 0, 0), (1178, .aload_n 0, 1, 0, 0, 0), (1179, .iload_n 3, 1, 0, 0, 0), (1180, .iconst 1, 1, 0, 0, 0), (1181, .iadd, 1, 0, 0, 0), (1182, .iaload, 1, 0, 0, 0), (1183, .aload_n 0, 1, 0, 0, 0)],
  [(1184, .iload_n 3, 1, 0, 0, 0), (1185, .iconst 2, 1, 0, 0, 0), (1186, .iadd, 1, 0, 0, 0), (1187, .iaload, 1, 0, 0, 0), (1188, .invokevirtual 123, 3, 152, 2, 0), (1191, .aload_n 2, 1, 0, 0, 0), (1192, .aload_n 0, 1, 0, 0, 0), (1193, .iload_n 3, 1, 0, 0, 0), (1194, .iconst 1, 1, 0, 0, 0), (1195, .iadd, 1, 0, 0, 0), (1196, .iaload, 1, 0, 0, 0), (1197, .aload_n 0, 1, 0, 0, 0), (1198, .iload_n 3, 1, 0, 0, 0), (1199, .iconst 2, 1, 0, 0, 0)],
  [(1200, .iadd, 1, 0, 0, 0), (1201, .iaload, 1, 0, 0, 0), (1202, .invokevirtual 126, 3, 153, 2, 0), (1205, .if_icmp .eq 211, 3, 0, 0, 0), (1208, .iconst 0, 1, 0, 0, 0), (1209, .ireturn, 1, 0, 0, 0), (1210, .aload_n 1, 1, 0, 0, 0), (1211, .aload_n 0, 1, 0, 0, 0), (1212, .iload_n 3, 1, 0, 0, 0), (1213, .iconst 1, 1, 0, 0, 0), (1214, .iadd, 1, 0, 0, 0), (1215, .iaload, 1, 0, 0, 0)],
  [(1216, .invokevirtual 127, 3, 154, 1, 0), (1219, .aload_n 2, 1, 0, 0, 0), (1220, .aload_n 0, 1, 0, 0, 0), (1221, .iload_n 3, 1, 0, 0, 0), (1222, .iconst 1, 1, 0, 0, 0), (1223, .iadd, 1, 0, 0, 0), (1224, .iaload, 1, 0, 0, 0), (1225, .invokevirtual 130, 3, 155, 1, 0), (1228, .if_icmp .eq 188, 3, 0, 0, 0), (1231, .iconst 0, 1, 0, 0, 0)],
  [(1232, .ireturn, 1, 0, 0, 0), (1233, .aload_n 1, 1, 0, 0, 0), (1234, .aload_n 0, 1, 0, 0, 0), (1235, .iload_n 3, 1, 0, 0, 0), (1236, .iconst 1, 1, 0, 0, 0), (1237, .iadd, 1, 0, 0, 0), (1238, .iaload, 1, 0, 0, 0), (1239, .aload_n 0, 1, 0, 0, 0), (1240, .iload_n 3, 1, 0, 0, 0), (1241, .iconst 2, 1, 0, 0, 0), (1242, .iadd, 1, 0, 0, 0), (1243, .iaload, 1, 0, 0, 0), (1244, .aload_n 0, 1, 0, 0, 0), (1245, .iload_n 3, 1, 0, 0, 0), (1246, .iconst 3, 1, 0, 0, 0), (1247, .iadd, 1, 0, 0, 0)],
  [(1248, .iaload, 1, 0, 0, 0), (1249, .invokevirtual 131, 3, 156, 3, 0), (1252, .aload_n 2, 1, 0, 0, 0), (1253, .aload_n 0, 1, 0, 0, 0), (1254, .iload_n 3, 1, 0, 0, 0), (1255, .iconst 1, 1, 0, 0, 0), (1256, .iadd, 1, 0, 0, 0), (1257, .iaload, 1, 0, 0, 0), (1258, .aload_n 0, 1, 0, 0, 0), (1259, .iload_n 3, 1, 0, 0, 0), (1260, .iconst 2, 1, 0, 0, 0), (1261, .iadd, 1, 0, 0, 0), (1262, .iaload, 1, 0, 0, 0), (1263, .aload_n 0, 1, 0, 0, 0)],
  [(1264, .iload_n 3, 1, 0, 0, 0), (1265, .iconst 3, 1, 0, 0, 0), (1266, .iadd, 1, 0, 0, 0), (1267, .iaload, 1, 0, 0, 0), (1268, .invokevirtual 134, 3, 157, 3, 0), (1271, .if_icmp .eq 145, 3, 0, 0, 0), (1274, .iconst 0, 1, 0, 0, 0), (1275, .ireturn, 1, 0, 0, 0), (1276, .aload_n 1, 1, 0, 0, 0), (1277, .aload_n 0, 1, 0, 0, 0), (1278, .iload_n 3, 1, 0, 0, 0), (1279, .iconst 1, 1, 0, 0, 0)],
  [(1280, .iadd, 1, 0, 0, 0), (1281, .iaload, 1, 0, 0, 0), (1282, .aload_n 0, 1, 0, 0, 0), (1283, .iload_n 3, 1, 0, 0, 0), (1284, .iconst 2, 1, 0, 0, 0), (1285, .iadd, 1, 0, 0, 0), (1286, .iaload, 1, 0, 0, 0), (1287, .invokevirtual 135, 3, 158, 2, 0), (1290, .aload_n 2, 1, 0, 0, 0), (1291, .aload_n 0, 1, 0, 0, 0), (1292, .iload_n 3, 1, 0, 0, 0), (1293, .iconst 1, 1, 0, 0, 0), (1294, .iadd, 1, 0, 0, 0), (1295, .iaload, 1, 0, 0, 0)],
  [(1296, .aload_n 0, 1, 0, 0, 0), (1297, .iload_n 3, 1, 0, 0, 0), (1298, .iconst 2, 1, 0, 0, 0), (1299, .iadd, 1, 0, 0, 0), (1300, .iaload, 1, 0, 0, 0), (1301, .invokevirtual 138, 3, 159, 2, 0), (1304, .if_icmp .eq 112, 3, 0, 0, 0), (1307, .iconst 0, 1, 0, 0, 0), (1308, .ireturn, 1, 0, 0, 0), (1309, .aload_n 1, 1, 0, 0, 0), (1310, .aload_n 0, 1, 0, 0, 0), (1311, .iload_n 3, 1, 0, 0, 0)],
  [(1312, .iconst 1, 1, 0, 0, 0), (1313, .iadd, 1, 0, 0, 0), (1314, .iaload, 1, 0, 0, 0), (1315, .invokevirtual 139, 3, 160, 1, 0), (1318, .aload_n 2, 1, 0, 0, 0), (1319, .aload_n 0, 1, 0, 0, 0), (1320, .iload_n 3, 1, 0, 0, 0), (1321, .iconst 1, 1, 0, 0, 0), (1322, .iadd, 1, 0, 0, 0), (1323, .iaload, 1, 0, 0, 0), (1324, .invokevirtual 143, 3, 161, 1, 0), (1327, .lcmp, 1, 0, 0, 0)],
  [(1328, .ifCond .eq 88, 3, 0, 0, 0), (1331, .iconst 0, 1, 0, 0, 0), (1332, .ireturn, 1, 0, 0, 0), (1333, .aload_n 1, 1, 0, 0, 0), (1334, .aload_n 0, 1, 0, 0, 0), (1335, .iload_n 3, 1, 0, 0, 0), (1336, .iconst 1, 1, 0, 0, 0), (1337, .iadd, 1, 0, 0, 0), (1338, .iaload, 1, 0, 0, 0), (1339, .invokevirtual 144, 3, 162, 1, 0), (1342, .aload_n 2, 1, 0, 0, 0), (1343, .aload_n 0, 1, 0, 0, 0)],
  [(1344, .iload_n 3, 1, 0, 0, 0), (1345, .iconst 1, 1, 0, 0, 0), (1346, .iadd, 1, 0, 0, 0), (1347, .iaload, 1, 0, 0, 0), (1348, .invokevirtual 147, 3, 163, 1, 0), (1351, .if_icmp .eq 65, 3, 0, 0, 0), (1354, .iconst 0, 1, 0, 0, 0), (1355, .ireturn, 1, 0, 0, 0), (1356, .aload_n 1, 1, 0, 0, 0), (1357, .aload_n 0, 1, 0, 0, 0), (1358, .iload_n 3, 1, 0, 0, 0), (1359, .iconst 1, 1, 0, 0, 0)],
  [(1360, .iadd, 1, 0, 0, 0), (1361, .iaload, 1, 0, 0, 0), (1362, .invokevirtual 148, 3, 164, 1, 0), (1365, .aload_n 2, 1, 0, 0, 0), (1366, .aload_n 0, 1, 0, 0, 0), (1367, .iload_n 3, 1, 0, 0, 0), (1368, .iconst 1, 1, 0, 0, 0), (1369, .iadd, 1, 0, 0, 0), (1370, .iaload, 1, 0, 0, 0), (1371, .invokevirtual 151, 3, 165, 1, 0), (1374, .if_icmp .eq 42, 3, 0, 0, 0)],
  [(1377, .iconst 0, 1, 0, 0, 0), (1378, .ireturn, 1, 0, 0, 0), (1379, .aload_n 1, 1, 0, 0, 0), (1380, .aload_n 0, 1, 0, 0, 0), (1381, .iload_n 3, 1, 0, 0, 0), (1382, .iconst 1, 1, 0, 0, 0), (1383, .iadd, 1, 0, 0, 0), (1384, .iaload, 1, 0, 0, 0), (1385, .invokevirtual 152, 3, 65, 1, 0), (1388, .aload_n 2, 1, 0, 0, 0), (1389, .aload_n 0, 1, 0, 0, 0), (1390, .iload_n 3, 1, 0, 0, 0), (1391, .iconst 1, 1, 0, 0, 0)],
  [(1392, .iadd, 1, 0, 0, 0), (1393, .iaload, 1, 0, 0, 0), (1394, .invokevirtual 155, 3, 166, 1, 0), (1397, .if_icmp .eq 19, 3, 0, 0, 0), (1400, .iconst 0, 1, 0, 0, 0), (1401, .ireturn, 1, 0, 0, 0), (1402, .aload_n 1, 1, 0, 0, 0), (1403, .invokevirtual 156, 3, 167, 0, 0), (1406, .aload_n 2, 1, 0, 0, 0), (1407, .invokevirtual 160, 3, 168, 0, 0)],
  [(1410, .lcmp, 1, 0, 0, 0), (1411, .ifCond .eq 5, 3, 0, 0, 0), (1414, .iconst 0, 1, 0, 0, 0), (1415, .ireturn, 1, 0, 0, 0), (1416, .iinc 3 6, 3, 0, 0, 0), (1419, .goto (-1401), 3, 0, 0, 0), (1422, .iconst 1, 1, 0, 0, 0), (1423, .ireturn, 1, 0, 0, 0)]]
def et_ms : List ex_M := [(et_0, 1, none, 18, 171),
  (et_1, 2, none, 0, 0),
  (et_2, 3, none, 0, 0),
  (et_3, 3, some .int, 0, 0),
  (et_4, 5, some .int, 0, 0),
  (et_5, 3, some .int, 0, 0),
  (et_6, 3, some .int, 0, 0),
  (et_7, 6, some .int, 0, 0),
  (et_8, 3, some .int, 0, 0),
  (et_9, 6, some .int, 0, 0),
  (et_10, 3, some .int, 0, 0),
  (et_11, 4, some .int, 0, 0),
  (et_12, 3, some .int, 0, 0),
  (et_13, 3, some .int, 0, 0),
  (et_14, 5, some .int, 0, 0),
  (et_15, 2, some .boolean, 0, 0),
  (et_16, 1, some .int, 0, 0),
  (et_17, 1, some .int, 0, 0),
  (et_18, 2, some .int, 0, 0),
  (et_19, 2, some .boolean, 0, 0),
  (et_20, 2, some .boolean, 0, 0),
  (et_21, 2, some .boolean, 0, 0),
  (et_22, 3, some .int, 0, 0),
  (et_23, 4, some .int, 0, 0),
  (et_24, 5, some .int, 0, 0),
  (et_25, 6, some .long, 0, 0),
  (et_26, 6, some .long, 0, 0),
  (et_27, 6, some .long, 0, 0),
  (et_28, 1, none, 0, 0),
  (et_29, 5, some .int, 0, 0),
  (et_30, 1, none, 0, 0),
  (et_31, 5, some .int, 0, 0),
  (et_32, 4, some .int, 0, 0),
  (et_33, 3, some .boolean, 0, 0),
  (et_34, 1, none, 0, 0),
  (et_35, 6, some .int, 0, 0),
  (et_36, 3, some .boolean, 0, 0),
  (et_37, 2, some .boolean, 0, 0),
  (et_38, 1, none, 0, 0),
  (et_39, 5, some .int, 0, 0),
  (et_40, 2, none, 186, 1671),
  (et_41, 6, none, 0, 0),
  (et_42, 5, none, 0, 0),
  (et_43, 5, none, 0, 0),
  (et_44, 3, none, 0, 0),
  (et_45, 7, none, 0, 0),
  (et_46, 4, none, 0, 0),
  (et_47, 3, some .int, 0, 0),
  (et_48, 1, some .int, 0, 0),
  (et_49, 1, some .int, 0, 0),
  (et_50, 2, some .int, 0, 0),
  (et_51, 5, some .int, 0, 0),
  (et_52, 1, none, 0, 0),
  (et_53, 5, some .int, 0, 0),
  (et_54, 3, none, 2, 16),
  (et_55, 2, none, 0, 0),
  (et_56, 2, some .int, 0, 0),
  (et_57, 4, none, 0, 0),
  (et_58, 4, some .boolean, 0, 0),
  (et_59, 3, none, 9, 60),
  (et_60, 3, none, 0, 0),
  (et_61, 5, some .int, 0, 0),
  (et_62, 4, some .int, 0, 0),
  (et_63, 6, some .boolean, 0, 0),
  (et_64, 5, some .int, 0, 0),
  (et_65, 4, none, 0, 0),
  (et_66, 1, some .int, 0, 0),
  (et_67, 8, some .int, 0, 0),
  (et_68, 4, some .int, 0, 0),
  (et_69, 5, some .int, 0, 0),
  (et_70, 1, none, 53, 650),
  (et_71, 5, some .int, 0, 0),
  (et_72, 2, some .int, 0, 0),
  (et_73, 1, some .int, 0, 0),
  (et_74, 4, some .boolean, 0, 0),
  (et_75, 3, some .int, 0, 0),
  (et_76, 5, some .boolean, 0, 0),
  (et_77, 7, some .boolean, 0, 0),
  (et_78, 1, none, 0, 0),
  (et_79, 2, some .boolean, 0, 0),
  (et_80, 2, some .int, 0, 0),
  (et_81, 4, some .int, 0, 0),
  (et_82, 1, none, 0, 0),
  (et_83, 4, some .int, 0, 0),
  (et_84, 2, none, 339, 3208),
  (et_85, 3, some .int, 0, 0),
  (et_86, 5, some .int, 0, 0),
  (et_87, 3, some .int, 0, 0),
  (et_88, 3, some .int, 0, 0),
  (et_89, 4, some .int, 0, 0),
  (et_90, 3, some .int, 0, 0),
  (et_91, 6, some .int, 0, 0),
  (et_92, 3, some .int, 0, 0),
  (et_93, 4, some .int, 0, 0),
  (et_94, 3, some .int, 0, 0),
  (et_95, 3, some .int, 0, 0),
  (et_96, 4, some .int, 0, 0),
  (et_97, 1, some .int, 0, 0),
  (et_98, 3, some .int, 0, 0),
  (et_99, 5, some .int, 0, 0),
  (et_100, 5, some .int, 0, 0),
  (et_101, 5, some .int, 0, 0),
  (et_102, 3, some .int, 0, 0),
  (et_103, 4, some .int, 0, 0),
  (et_104, 3, some .int, 0, 0),
  (et_105, 2, some .int, 0, 0),
  (et_106, 2, some .int, 0, 0),
  (et_107, 4, some .int, 0, 0),
  (et_108, 4, some .int, 0, 0),
  (et_109, 3, some .int, 0, 0),
  (et_110, 4, some .int, 0, 0),
  (et_111, 6, some .int, 0, 0),
  (et_112, 5, some .int, 0, 0),
  (et_113, 7, some .int, 0, 0),
  (et_114, 2, some .long, 0, 0),
  (et_115, 2, some .int, 0, 0),
  (et_116, 2, some .int, 0, 0),
  (et_117, 2, some .int, 0, 0),
  (et_118, 4, some .long, 0, 0),
  (et_119, 3, some .boolean, 0, 0),
  (et_120, 2, some .boolean, 0, 0),
  (et_121, 4, some .long, 0, 0),
  (et_122, 3, none, 0, 0),
  (et_123, 4, some .int, 0, 0),
  (et_124, 4, none, 0, 0),
  (et_125, 6, some .int, 0, 0),
  (et_126, 6, some .boolean, 0, 0),
  (et_127, 1, none, 21, 3438),
  (et_128, 2, none, 0, 0),
  (et_129, 10, some .long, 0, 0),
  (et_130, 7, some .int, 0, 0),
  (et_131, 4, some .int, 0, 0),
  (et_132, 4, some .int, 0, 0),
  (et_133, 1, some .int, 0, 0),
  (et_134, 3, some .int, 0, 0),
  (et_135, 1, some .boolean, 0, 0),
  (et_136, 1, some .boolean, 0, 0),
  (et_137, 1, some .boolean, 0, 0),
  (et_138, 5, some .int, 0, 0),
  (et_139, 3, some .int, 0, 0),
  (et_140, 3, some .int, 0, 0),
  (et_141, 6, some .int, 0, 0),
  (et_142, 3, some .int, 0, 0),
  (et_143, 7, some .int, 0, 0),
  (et_144, 2, some .boolean, 0, 0),
  (et_145, 3, some .int, 0, 0),
  (et_146, 5, some .int, 0, 0),
  (et_147, 3, some .int, 0, 0),
  (et_148, 3, some .int, 0, 0),
  (et_149, 5, some .int, 0, 0),
  (et_150, 2, some .int, 0, 0),
  (et_151, 3, some .boolean, 0, 0),
  (et_152, 4, some .int, 0, 0),
  (et_153, 3, none, 0, 0),
  (et_154, 1, some .int, 0, 0),
  (et_155, 3, some .boolean, 0, 0),
  (et_156, 5, some .int, 0, 0),
  (et_157, 3, some .int, 0, 0),
  (et_158, 2, some .int, 0, 0),
  (et_159, 6, some .int, 0, 0),
  (et_160, 2, some .int, 0, 0),
  (et_161, 1, some .int, 0, 0),
  (et_162, 5, some .int, 0, 0),
  (et_163, 6, some .int, 0, 0),
  (et_164, 3, some .boolean, 0, 0),
  (et_165, 9, none, 0, 0),
  (et_166, 5, some .int, 0, 0),
  (et_167, 3, some .int, 0, 0),
  (et_168, 8, none, 0, 0),
  (et_169, 3, none, 0, 0),
  (et_170, 2, some .boolean, 0, 0),
  (et_171, 2, some .boolean, 0, 0),
  (et_172, 5, some .int, 0, 0),
  (et_173, 5, some .int, 0, 0),
  (et_174, 5, some .int, 0, 0),
  (et_175, 3, some .int, 0, 0),
  (et_176, 4, some .int, 0, 0),
  (et_177, 9, some .int, 0, 0),
  (et_178, 11, some .boolean, 0, 0),
  (et_179, 2, some .int, 0, 0),
  (et_180, 2, some .int, 0, 0),
  (et_181, 5, some .boolean, 0, 0),
  (et_182, 9, some .boolean, 0, 0),
  (et_183, 7, none, 0, 0),
  (et_184, 5, some .boolean, 0, 0),
  (et_185, 5, some .int, 0, 0),
  (et_186, 10, some .int, 0, 0),
  (et_187, 3, some .int, 0, 0),
  (et_188, 8, some .int, 0, 0),
  (et_189, 5, some .int, 0, 0),
  (et_190, 3, some .int, 0, 0),
  (et_191, 5, some .int, 0, 0),
  (et_192, 3, some .int, 0, 0),
  (et_193, 6, some .int, 0, 0),
  (et_194, 6, some .int, 0, 0),
  (et_195, 4, some .int, 0, 0),
  (et_196, 7, some .int, 0, 0),
  (et_197, 2, some .long, 0, 0),
  (et_198, 3, some .int, 0, 0),
  (et_199, 3, some .int, 0, 0),
  (et_200, 2, some .int, 0, 0),
  (et_201, 2, some .int, 0, 0),
  (et_202, 8, some .long, 0, 0),
  (et_203, 4, some .long, 0, 0),
  (et_204, 1, some .int, 0, 0),
  (et_205, 3, some .int, 0, 0),
  (et_206, 1, some .int, 0, 0),
  (et_207, 2, some .int, 0, 0),
  (et_208, 2, some .int, 0, 0),
  (et_209, 4, some .boolean, 362, 6690)]
def et_cls : List (List ex_V) := [[.inr (.inr (.inl none)), .inr (.inr (.inl none)), .inr (.inr (.inl none)), .inr (.inr (.inl none)), .inr (.inr (.inl none)), .inr (.inr (.inl none)), .inr (.inr (.inl none)), .inr (.inr (.inl none)), .inr (.inr (.inl none)), .inr (.inr (.inl none)), .inr (.inr (.inl none)), .inr (.inr (.inl none)), .inr (.inr (.inl none)), .inr (.inr (.inl none)), .inl 0, .inl 0, .inl 0, .inl 0, .inl 0, .inl 0],
  [],
  [],
  [],
  [],
  [.inr (.inr (.inl none)), .inr (.inr (.inl none)), .inr (.inr (.inl none)), .inr (.inr (.inl none)), .inr (.inr (.inl none)), .inr (.inr (.inl none)), .inr (.inr (.inl none)), .inr (.inr (.inl none)), .inr (.inr (.inl none)), .inr (.inr (.inl none)), .inr (.inr (.inl none)), .inr (.inr (.inl none)), .inr (.inr (.inl none)), .inr (.inr (.inl none)), .inr (.inr (.inl none)), .inl 0],
  [],
  [.inr (.inr (.inl none)), .inr (.inr (.inl none)), .inr (.inr (.inl none)), .inr (.inr (.inl none)), .inl 0, .inl 0, .inl 0],
  [.inr (.inr (.inl none)), .inr (.inr (.inl none)), .inr (.inr (.inl none)), .inr (.inr (.inl none)), .inr (.inr (.inl none)), .inl 0, .inr (.inr (.inl none)), .inr (.inr (.inl none))],
  [.inr (.inr (.inl none)), .inl 0, .inr (.inr (.inl none)), .inr (.inr (.inl none)), .inl 0, .inl 0],
  [],
  [.inr (.inr (.inl none)), .inr (.inr (.inl none)), .inr (.inr (.inl none)), .inr (.inr (.inl none)), .inr (.inr (.inl none)), .inr (.inr (.inl none)), .inr (.inr (.inl none)), .inr (.inr (.inl none)), .inr (.inr (.inl none)), .inr (.inl 0), .inr (.inl 0)],
  [.inr (.inr (.inl none)), .inr (.inr (.inl none)), .inr (.inr (.inl none)), .inr (.inr (.inl none)), .inr (.inl 0), .inr (.inl 0), .inr (.inr (.inl none)), .inl 0, .inl 0, .inl 0, .inl 0, .inl 0, .inr (.inr (.inl none)), .inr (.inr (.inl none)), .inl 0, .inr (.inr (.inl none)), .inr (.inr (.inl none)), .inr (.inr (.inl none)), .inr (.inr (.inl none)), .inr (.inr (.inl none)), .inl 0, .inl 0, .inl 0, .inr (.inr (.inl none)), .inl 0, .inr (.inr (.inl none)), .inr (.inr (.inl none)), .inr (.inr (.inl none)), .inr (.inr (.inl none)), .inr (.inr (.inl none)), .inr (.inr (.inl none)), .inr (.inr (.inl none)), .inr (.inr (.inl none))]]
def et_vt : List (List (Nat × Nat)) := [[(0, 1)],
  [(0, 14)],
  [(0, 21)],
  [(0, 16)],
  [(0, 17)],
  [(0, 18)],
  [(5, 42)],
  [(1, 29), (2, 31), (3, 31), (4, 39), (6, 53), (10, 31)],
  [(5, 44)],
  [(1, 33), (2, 33), (3, 36), (4, 33), (6, 33), (10, 33)],
  [(5, 43)],
  [(0, 24)],
  [(1, 32), (2, 32), (3, 35), (4, 32), (6, 32), (10, 83)],
  [(0, 19)],
  [(5, 45)],
  [(5, 46)],
  [(5, 47)],
  [(5, 49)],
  [(7, 57)],
  [(7, 58)],
  [(8, 61)],
  [(8, 62)],
  [(8, 63)],
  [(8, 64)],
  [(8, 66)],
  [(5, 41)],
  [(8, 69)],
  [(9, 78)],
  [(9, 74)],
  [(9, 75)],
  [(9, 77)],
  [(9, 80)],
  [(9, 76)],
  [(9, 79)],
  [(0, 3)],
  [(0, 4)],
  [(0, 5)],
  [(0, 6)],
  [(0, 7)],
  [(0, 8)],
  [(0, 9)],
  [(0, 10)],
  [(0, 11)],
  [(0, 12)],
  [(0, 13)],
  [(9, 71)],
  [(9, 72)],
  [(9, 73)],
  [(9, 81)],
  [(0, 2)],
  [(0, 20)],
  [(11, 122)],
  [(5, 48)],
  [(5, 50)],
  [(5, 51)],
  [(7, 55)],
  [(7, 56)],
  [(0, 22)],
  [(8, 60)],
  [(8, 65)],
  [(8, 67)],
  [(8, 68)],
  [(0, 23)],
  [(11, 124)],
  [(11, 123)],
  [(11, 117)],
  [(0, 25)],
  [(0, 26)],
  [(0, 27)],
  [(12, 128)],
  [(12, 131)],
  [(12, 132)],
  [(12, 144)],
  [(12, 151)],
  [(12, 153)],
  [(12, 134)],
  [(12, 138)],
  [(12, 139)],
  [(12, 140)],
  [(12, 141)],
  [(12, 142)],
  [(12, 143)],
  [(12, 145)],
  [(12, 146)],
  [(12, 147)],
  [(12, 155)],
  [(12, 156)],
  [(12, 158)],
  [(12, 160)],
  [(12, 161)],
  [(12, 163)],
  [(12, 164)],
  [(12, 162)],
  [(12, 159)],
  [(12, 166)],
  [(12, 165)],
  [(12, 167)],
  [(12, 168)],
  [(12, 171)],
  [(12, 169)],
  [(12, 178)],
  [(12, 181)],
  [(12, 183)],
  [(12, 182)],
  [(12, 184)],
  [(12, 185)],
  [(12, 190)],
  [(12, 191)],
  [(12, 130)],
  [(12, 194)],
  [(12, 200)],
  [(12, 202)],
  [(11, 85)],
  [(11, 86)],
  [(11, 87)],
  [(11, 88)],
  [(11, 89)],
  [(11, 90)],
  [(11, 91)],
  [(11, 92)],
  [(11, 93)],
  [(11, 94)],
  [(11, 95)],
  [(12, 148)],
  [(11, 96)],
  [(12, 149)],
  [(11, 97)],
  [(12, 150)],
  [(11, 98)],
  [(12, 157)],
  [(11, 99)],
  [(12, 172)],
  [(11, 100)],
  [(12, 173)],
  [(11, 101)],
  [(12, 174)],
  [(11, 102)],
  [(12, 175)],
  [(11, 103)],
  [(12, 176)],
  [(11, 104)],
  [(12, 177)],
  [(11, 105)],
  [(12, 179)],
  [(11, 106)],
  [(12, 180)],
  [(11, 107)],
  [(12, 186)],
  [(11, 108)],
  [(12, 188)],
  [(11, 109)],
  [(12, 189)],
  [(11, 110)],
  [(12, 192)],
  [(11, 111)],
  [(12, 193)],
  [(11, 112)],
  [(12, 195)],
  [(11, 113)],
  [(12, 196)],
  [(11, 114)],
  [(12, 197)],
  [(11, 115)],
  [(12, 198)],
  [(11, 116)],
  [(12, 199)],
  [(12, 201)],
  [(11, 118)],
  [(12, 203)]]
