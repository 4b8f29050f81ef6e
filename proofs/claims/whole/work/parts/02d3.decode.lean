def lX5_leaves_1 : List (Nat × Instr × Nat) := [(62, .iaload, 1), (63, .iastore, 1), (64, .aload_n 0, 1), (65, .getfield 75, 3), (68, .iload_n 1, 1), (69, .aload_n 0, 1), (70, .iload_n 3, 1), (71, .iload_n 2, 1), (72, .invokevirtual 154, 3), (75, .iastore, 1), (76, .iload_n 2, 1), (77, .aload_n 0, 1), (78, .getfield 57, 3), (81, .iload_n 1, 1), (82, .iaload, 1), (83, .if_icmp .eq 35, 3), (86, .aload_n 0, 1), (87, .aload_n 0, 1), (88, .getfield 57, 3), (91, .iload_n 1, 1), (92, .iaload, 1), (93, .iload_n 2, 1), (94, .aload_n 0, 1), (95, .getfield 19, 3), (98, .iload_n 2, 1), (99, .iaload, 1), (100, .i2l, 1), (101, .aload_n 0, 1), (102, .getfield 63, 3), (105, .iload_n 1, 1), (106, .iaload, 1), (107, .bipush 9, 2), (109, .iadd, 1), (110, .bipush 10, 2), (112, .idiv, 1), (113, .i2l, 1), (114, .lmul, 1), (115, .invokevirtual 190, 3), (118, .return_, 1)]
set_option maxRecDepth 100000 in
theorem tX5_leaves_1 : xdec cX5_leaves lX5_leaves_1 = true := by decide +kernel
def lX5_go_0 : List (Nat × Instr × Nat) := [(0, .aload_n 0, 1), (1, .iload_n 1, 1), (2, .iconst 1, 1), (3, .sipush 200, 3), (6, .invokestatic 119, 3), (9, .invokevirtual 123, 3), (12, .ifCond .ne 5, 3), (15, .iconst 0, 1), (16, .ireturn, 1), (17, .iconst 0, 1), (18, .istore_n 2, 1), (19, .iconst 0, 1), (20, .istore_n 3, 1), (21, .iload_n 3, 1), (22, .iload_n 1, 1), (23, .if_icmp .ge 85, 3), (26, .iconst 0, 1), (27, .istore 4, 2), (29, .iload 4, 2), (31, .aload_n 0, 1), (32, .getfield 167, 3), (35, .if_icmp .ge 33, 3), (38, .iload_n 2, 1), (39, .aload_n 0, 1), (40, .getfield 72, 3), (43, .iload 4, 2), (45, .iaload, 1), (46, .iconst 1, 1), (47, .if_icmp .ne 12, 3), (50, .aload_n 0, 1), (51, .iload 4, 2), (53, .invokevirtual 201, 3), (56, .goto 4, 3), (59, .iconst 0, 1), (60, .iadd, 1), (61, .istore_n 2, 1), (62, .iinc 4 1, 3), (65, .goto (-36), 3), (68, .iconst 0, 1), (69, .istore 4, 2)]
set_option maxRecDepth 100000 in
theorem tX5_go_0 : xdec cX5_go lX5_go_0 = true := by decide +kernel
def lX5_go_1 : List (Nat × Instr × Nat) := [(71, .iload 4, 2), (73, .aload_n 0, 1), (74, .getfield 167, 3), (77, .if_icmp .ge 25, 3), (80, .aload_n 0, 1), (81, .getfield 72, 3), (84, .iload 4, 2), (86, .iaload, 1), (87, .ifCond .ne 9, 3), (90, .aload_n 0, 1), (91, .iload 4, 2), (93, .invokevirtual 204, 3), (96, .iinc 4 1, 3), (99, .goto (-28), 3), (102, .iinc 3 1, 3), (105, .goto (-84), 3), (108, .iload_n 2, 1), (109, .ireturn, 1)]
set_option maxRecDepth 100000 in
theorem tX5_go_1 : xdec cX5_go lX5_go_1 = true := by decide +kernel
def lX5_lose_0 : List (Nat × Instr × Nat) := [(0, .aload_n 0, 1), (1, .aload_n 0, 1), (2, .iload_n 1, 1), (3, .invokevirtual 178, 3), (6, .invokevirtual 123, 3), (9, .ifCond .ne 5, 3), (12, .iconst 0, 1), (13, .ireturn, 1), (14, .aload_n 0, 1), (15, .iload_n 1, 1), (16, .invokevirtual 181, 3), (19, .ifCond .ne 9, 3), (22, .aload_n 0, 1), (23, .iconst 2, 1), (24, .invokevirtual 134, 3), (27, .ireturn, 1), (28, .aload_n 0, 1), (29, .getfield 72, 3), (32, .iload_n 1, 1), (33, .iconst 3, 1), (34, .iastore, 1), (35, .aload_n 0, 1), (36, .getfield 81, 3), (39, .iload_n 1, 1), (40, .iconst 0, 1), (41, .iastore, 1), (42, .aload_n 0, 1), (43, .getfield 106, 3), (46, .iload_n 1, 1), (47, .iaload, 1), (48, .ifCond .ne 7, 3), (51, .iconst (-1), 1), (52, .goto 14, 3), (55, .aload_n 0, 1), (56, .getfield 94, 3), (59, .aload_n 0, 1), (60, .getfield 103, 3), (63, .iload_n 1, 1), (64, .iaload, 1), (65, .iaload, 1)]
set_option maxRecDepth 100000 in
theorem tX5_lose_0 : xdec cX5_lose lX5_lose_0 = true := by decide +kernel
def lX5_lose_1 : List (Nat × Instr × Nat) := [(66, .ireturn, 1)]
set_option maxRecDepth 100000 in
theorem tX5_lose_1 : xdec cX5_lose lX5_lose_1 = true := by decide +kernel
def lX5_paysFor_0 : List (Nat × Instr × Nat) := [(0, .iload_n 2, 1), (1, .aload_n 0, 1), (2, .getfield 57, 3), (5, .iload_n 1, 1), (6, .iaload, 1), (7, .if_icmp .ne 5, 3), (10, .iconst 0, 1), (11, .ireturn, 1), (12, .aload_n 0, 1), (13, .iload_n 2, 1), (14, .aload_n 0, 1), (15, .getfield 57, 3), (18, .iload_n 1, 1), (19, .iaload, 1), (20, .iload_n 3, 1), (21, .i2l, 1), (22, .invokevirtual 190, 3), (25, .iload_n 3, 1), (26, .ireturn, 1)]
set_option maxRecDepth 100000 in
theorem tX5_paysFor_0 : xdec cX5_paysFor lX5_paysFor_0 = true := by decide +kernel
def lX5_claim_0 : List (Nat × Instr × Nat) := [(0, .aload_n 0, 1), (1, .aload_n 0, 1), (2, .iload_n 1, 1), (3, .invokevirtual 178, 3), (6, .invokevirtual 123, 3), (9, .ifCond .ne 5, 3), (12, .iconst 0, 1), (13, .ireturn, 1), (14, .aload_n 0, 1), (15, .getfield 72, 3), (18, .iload_n 1, 1), (19, .iaload, 1), (20, .iconst 3, 1), (21, .if_icmp .ne 21, 3), (24, .aload_n 0, 1), (25, .getfield 66, 3), (28, .iload_n 1, 1), (29, .baload, 1), (30, .ifCond .eq 12, 3), (33, .aload_n 0, 1), (34, .getfield 90, 3), (37, .iload_n 1, 1), (38, .baload, 1), (39, .ifCond .eq 9, 3), (42, .aload_n 0, 1), (43, .iconst 2, 1), (44, .invokevirtual 134, 3), (47, .ireturn, 1), (48, .aload_n 0, 1), (49, .getfield 90, 3), (52, .iload_n 1, 1), (53, .iconst 1, 1), (54, .bastore, 1), (55, .aload_n 0, 1), (56, .getfield 33, 3), (59, .aload_n 0, 1), (60, .getfield 57, 3), (63, .iload_n 1, 1), (64, .iaload, 1), (65, .dup2, 1)]
set_option maxRecDepth 100000 in
theorem tX5_claim_0 : xdec cX5_claim lX5_claim_0 = true := by decide +kernel
def lX5_claim_1 : List (Nat × Instr × Nat) := [(66, .laload, 1), (67, .ldc2_w 207, 3), (70, .lsub, 1), (71, .lastore, 1), (72, .aload_n 0, 1), (73, .getfield 78, 3), (76, .iload_n 1, 1), (77, .iaload, 1), (78, .iconst (-1), 1), (79, .if_icmp .ne 18, 3), (82, .aload_n 0, 1), (83, .iload_n 1, 1), (84, .aload_n 0, 1), (85, .getfield 75, 3), (88, .iload_n 1, 1), (89, .iaload, 1), (90, .sipush 4000, 3), (93, .invokevirtual 209, 3), (96, .ireturn, 1), (97, .aload_n 0, 1), (98, .iload_n 1, 1), (99, .aload_n 0, 1), (100, .getfield 39, 3), (103, .aload_n 0, 1), (104, .getfield 78, 3), (107, .iload_n 1, 1), (108, .iaload, 1), (109, .iaload, 1), (110, .sipush 2000, 3), (113, .invokevirtual 209, 3), (116, .aload_n 0, 1), (117, .iload_n 1, 1), (118, .aload_n 0, 1), (119, .getfield 42, 3), (122, .aload_n 0, 1), (123, .getfield 78, 3), (126, .iload_n 1, 1), (127, .iaload, 1), (128, .iaload, 1), (129, .sipush 2000, 3)]
set_option maxRecDepth 100000 in
theorem tX5_claim_1 : xdec cX5_claim lX5_claim_1 = true := by decide +kernel
def lX5_claim_2 : List (Nat × Instr × Nat) := [(132, .invokevirtual 209, 3), (135, .iadd, 1), (136, .ireturn, 1)]
set_option maxRecDepth 100000 in
theorem tX5_claim_2 : xdec cX5_claim lX5_claim_2 = true := by decide +kernel
def lX5_sample_0 : List (Nat × Instr × Nat) := [(0, .aload_n 0, 1), (1, .iconst 0, 1), (2, .putfield 112, 3), (5, .aload_n 0, 1), (6, .getfield 194, 3), (9, .istore_n 2, 1), (10, .aload_n 0, 1), (11, .iload_n 1, 1), (12, .putfield 194, 3), (15, .iload_n 2, 1), (16, .ireturn, 1)]
set_option maxRecDepth 100000 in
theorem tX5_sample_0 : xdec cX5_sample lX5_sample_0 = true := by decide +kernel
def lX5_settle_0 : List (Nat × Instr × Nat) := [(0, .aload_n 0, 1), (1, .iload_n 1, 1), (2, .iconst 1, 1), (3, .sipush 1000, 3), (6, .invokestatic 119, 3), (9, .invokevirtual 123, 3), (12, .ifCond .ne 5, 3), (15, .lconst 0, 1), (16, .lreturn, 1), (17, .lconst 0, 1), (18, .lstore_n 2, 1), (19, .iconst 0, 1), (20, .istore 4, 2), (22, .iload 4, 2), (24, .bipush 64, 2), (26, .if_icmp .ge 50, 3), (29, .aload_n 0, 1), (30, .getfield 36, 3), (33, .iload 4, 2), (35, .laload, 1), (36, .iload_n 1, 1), (37, .i2l, 1), (38, .lmul, 1), (39, .lstore 5, 2), (41, .aload_n 0, 1), (42, .iload 4, 2), (44, .bipush 8, 2), (46, .idiv, 1), (47, .iload 4, 2), (49, .bipush 8, 2), (51, .irem, 1), (52, .lload 5, 2), (54, .invokevirtual 190, 3), (57, .lload_n 2, 1), (58, .lload 5, 2), (60, .ladd, 1), (61, .lstore_n 2, 1), (62, .aload_n 0, 1), (63, .getfield 36, 3), (66, .iload 4, 2)]
set_option maxRecDepth 100000 in
theorem tX5_settle_0 : xdec cX5_settle lX5_settle_0 = true := by decide +kernel
def lX5_settle_1 : List (Nat × Instr × Nat) := [(68, .lconst 0, 1), (69, .lastore, 1), (70, .iinc 4 1, 3), (73, .goto (-51), 3), (76, .lload_n 2, 1), (77, .lreturn, 1)]
set_option maxRecDepth 100000 in
theorem tX5_settle_1 : xdec cX5_settle lX5_settle_1 = true := by decide +kernel
def lX5_rate_0 : List (Nat × Instr × Nat) := [(0, .aload_n 0, 1), (1, .aload_n 0, 1), (2, .iload_n 2, 1), (3, .invokevirtual 127, 3), (6, .invokevirtual 123, 3), (9, .ifCond .ne 5, 3), (12, .iconst 0, 1), (13, .ireturn, 1), (14, .iload_n 1, 1), (15, .invokestatic 131, 3), (18, .ifCond .eq 23, 3), (21, .iload_n 1, 1), (22, .iload_n 3, 1), (23, .invokestatic 163, 3), (26, .ifCond .eq 15, 3), (29, .aload_n 0, 1), (30, .iload_n 1, 1), (31, .iload_n 2, 1), (32, .iload_n 3, 1), (33, .iload 4, 2), (35, .invokevirtual 170, 3), (38, .goto 8, 3), (41, .aload_n 0, 1), (42, .iconst 2, 1), (43, .invokevirtual 134, 3), (46, .ireturn, 1)]
set_option maxRecDepth 100000 in
theorem tX5_rate_0 : xdec cX5_rate lX5_rate_0 = true := by decide +kernel
def lX5_ofThing_0 : List (Nat × Instr × Nat) := [(0, .aload_n 0, 1), (1, .aload_n 0, 1), (2, .iload_n 1, 1), (3, .invokevirtual 178, 3), (6, .invokevirtual 123, 3), (9, .ifCond .ne 5, 3), (12, .lconst 0, 1), (13, .lreturn, 1), (14, .iload_n 2, 1), (15, .tableswitch 102 0 6 #[41, 49, 57, 65, 73, 79, 94], 41), (56, .aload_n 0, 1), (57, .getfield 72, 3), (60, .iload_n 1, 1), (61, .iaload, 1), (62, .i2l, 1), (63, .lreturn, 1), (64, .aload_n 0, 1), (65, .getfield 75, 3), (68, .iload_n 1, 1), (69, .iaload, 1), (70, .i2l, 1), (71, .lreturn, 1), (72, .aload_n 0, 1), (73, .getfield 81, 3), (76, .iload_n 1, 1), (77, .iaload, 1), (78, .i2l, 1), (79, .lreturn, 1), (80, .aload_n 0, 1), (81, .getfield 60, 3), (84, .iload_n 1, 1), (85, .iaload, 1), (86, .i2l, 1), (87, .lreturn, 1), (88, .aload_n 0, 1), (89, .iload_n 1, 1), (90, .invokevirtual 186, 3), (93, .lreturn, 1), (94, .aload_n 0, 1), (95, .getfield 84, 3)]
set_option maxRecDepth 100000 in
theorem tX5_ofThing_0 : xdec cX5_ofThing lX5_ofThing_0 = true := by decide +kernel
def lX5_ofThing_1 : List (Nat × Instr × Nat) := [(98, .iload_n 1, 1), (99, .baload, 1), (100, .ifCond .eq 7, 3), (103, .lconst 1, 1), (104, .goto 4, 3), (107, .lconst 0, 1), (108, .lreturn, 1), (109, .aload_n 0, 1), (110, .getfield 106, 3), (113, .iload_n 1, 1), (114, .iaload, 1), (115, .i2l, 1), (116, .lreturn, 1), (117, .aload_n 0, 1), (118, .iconst 2, 1), (119, .invokevirtual 134, 3), (122, .i2l, 1), (123, .lreturn, 1)]
set_option maxRecDepth 100000 in
theorem tX5_ofThing_1 : xdec cX5_ofThing lX5_ofThing_1 = true := by decide +kernel
def lX5_hand_0 : List (Nat × Instr × Nat) := [(0, .aload_n 0, 1), (1, .aload_n 0, 1), (2, .iload_n 1, 1), (3, .invokevirtual 178, 3), (6, .ifCond .eq 21, 3), (9, .iload_n 2, 1), (10, .ifCond .lt 17, 3), (13, .iload_n 2, 1), (14, .aload_n 0, 1), (15, .getfield 106, 3), (18, .iload_n 1, 1), (19, .iaload, 1), (20, .if_icmp .ge 7, 3), (23, .iconst 1, 1), (24, .goto 4, 3), (27, .iconst 0, 1), (28, .invokevirtual 123, 3), (31, .ifCond .ne 5, 3), (34, .iconst 0, 1), (35, .ireturn, 1), (36, .aload_n 0, 1), (37, .getfield 100, 3), (40, .iload_n 1, 1), (41, .iaload, 1), (42, .istore_n 3, 1), (43, .iconst 0, 1), (44, .istore 4, 2), (46, .iload 4, 2), (48, .iload_n 2, 1), (49, .if_icmp .ge 16, 3), (52, .aload_n 0, 1), (53, .getfield 97, 3), (56, .iload_n 3, 1), (57, .iaload, 1), (58, .istore_n 3, 1), (59, .iinc 4 1, 3), (62, .goto (-16), 3), (65, .aload_n 0, 1), (66, .getfield 94, 3), (69, .iload_n 3, 1)]
set_option maxRecDepth 100000 in
theorem tX5_hand_0 : xdec cX5_hand lX5_hand_0 = true := by decide +kernel
def lX5_hand_1 : List (Nat × Instr × Nat) := [(70, .iaload, 1), (71, .ireturn, 1)]
set_option maxRecDepth 100000 in
theorem tX5_hand_1 : xdec cX5_hand lX5_hand_1 = true := by decide +kernel
def lX5_account_0 : List (Nat × Instr × Nat) := [(0, .aload_n 0, 1), (1, .aload_n 0, 1), (2, .iload_n 1, 1), (3, .invokevirtual 127, 3), (6, .invokevirtual 123, 3), (9, .ifCond .eq 12, 3), (12, .aload_n 0, 1), (13, .getfield 29, 3), (16, .iload_n 1, 1), (17, .laload, 1), (18, .goto 4, 3), (21, .lconst 0, 1), (22, .lreturn, 1)]
set_option maxRecDepth 100000 in
theorem tX5_account_0 : xdec cX5_account lX5_account_0 = true := by decide +kernel
def lX5_till_0 : List (Nat × Instr × Nat) := [(0, .aload_n 0, 1), (1, .aload_n 0, 1), (2, .iload_n 1, 1), (3, .invokevirtual 127, 3), (6, .invokevirtual 123, 3), (9, .ifCond .eq 12, 3), (12, .aload_n 0, 1), (13, .getfield 33, 3), (16, .iload_n 1, 1), (17, .laload, 1), (18, .goto 4, 3), (21, .lconst 0, 1), (22, .lreturn, 1)]
set_option maxRecDepth 100000 in
theorem tX5_till_0 : xdec cX5_till lX5_till_0 = true := by decide +kernel
def lX5_counted_0 : List (Nat × Instr × Nat) := [(0, .aload_n 0, 1), (1, .aload_n 0, 1), (2, .iload_n 1, 1), (3, .invokevirtual 127, 3), (6, .ifCond .eq 15, 3), (9, .aload_n 0, 1), (10, .iload_n 2, 1), (11, .invokevirtual 127, 3), (14, .ifCond .eq 7, 3), (17, .iconst 1, 1), (18, .goto 4, 3), (21, .iconst 0, 1), (22, .invokevirtual 123, 3), (25, .ifCond .eq 17, 3), (28, .aload_n 0, 1), (29, .getfield 36, 3), (32, .bipush 8, 2), (34, .iload_n 1, 1), (35, .imul, 1), (36, .iload_n 2, 1), (37, .iadd, 1), (38, .laload, 1), (39, .goto 4, 3), (42, .lconst 0, 1), (43, .lreturn, 1)]
set_option maxRecDepth 100000 in
theorem tX5_counted_0 : xdec cX5_counted lX5_counted_0 = true := by decide +kernel
def lX5_gain_0 : List (Nat × Instr × Nat) := [(0, .aload_n 0, 1), (1, .iload_n 1, 1), (2, .iconst 0, 1), (3, .iconst 2, 1), (4, .invokestatic 119, 3), (7, .invokevirtual 123, 3), (10, .ifCond .ne 5, 3), (13, .iconst 0, 1), (14, .ireturn, 1), (15, .aload_n 0, 1), (16, .getfield 109, 3), (19, .iconst 0, 1), (20, .iconst 0, 1), (21, .iastore, 1), (22, .iconst 0, 1), (23, .istore_n 2, 1), (24, .iload_n 2, 1), (25, .aload_n 0, 1), (26, .getfield 116, 3), (29, .if_icmp .ge 89, 3), (32, .iconst 0, 1), (33, .istore_n 3, 1), (34, .iload_n 3, 1), (35, .aload_n 0, 1), (36, .getfield 116, 3), (39, .if_icmp .ge 73, 3), (42, .aload_n 0, 1), (43, .getfield 7, 3), (46, .iconst 3, 1), (47, .iload_n 3, 1), (48, .imul, 1), (49, .iaload, 1), (50, .aload_n 0, 1), (51, .getfield 22, 3), (54, .iload_n 2, 1), (55, .iaload, 1), (56, .isub, 1), (57, .istore 4, 2), (59, .iload_n 2, 1), (60, .iload_n 3, 1)]
set_option maxRecDepth 100000 in
theorem tX5_gain_0 : xdec cX5_gain lX5_gain_0 = true := by decide +kernel
def lX5_gain_1 : List (Nat × Instr × Nat) := [(61, .if_icmp .eq 45, 3), (64, .aload_n 0, 1), (65, .getfield 22, 3), (68, .iload_n 2, 1), (69, .iaload, 1), (70, .ifCond .le 36, 3), (73, .iload 4, 2), (75, .aload_n 0, 1), (76, .getfield 109, 3), (79, .iconst 0, 1), (80, .iaload, 1), (81, .if_icmp .le 25, 3), (84, .aload_n 0, 1), (85, .getfield 109, 3), (88, .iconst 0, 1), (89, .iload 4, 2), (91, .iastore, 1), (92, .aload_n 0, 1), (93, .getfield 109, 3), (96, .iconst 1, 1), (97, .iload_n 2, 1), (98, .iastore, 1), (99, .aload_n 0, 1), (100, .getfield 109, 3), (103, .iconst 2, 1), (104, .iload_n 3, 1), (105, .iastore, 1), (106, .iinc 3 1, 3), (109, .goto (-75), 3), (112, .iinc 2 1, 3), (115, .goto (-91), 3), (118, .aload_n 0, 1), (119, .getfield 109, 3), (122, .iconst 0, 1), (123, .iaload, 1), (124, .ifCond .ne 7, 3), (127, .iconst (-1), 1), (128, .goto 9, 3), (131, .aload_n 0, 1), (132, .getfield 109, 3)]
set_option maxRecDepth 100000 in
theorem tX5_gain_1 : xdec cX5_gain lX5_gain_1 = true := by decide +kernel
def lX5_gain_2 : List (Nat × Instr × Nat) := [(135, .iload_n 1, 1), (136, .iaload, 1), (137, .ireturn, 1)]
set_option maxRecDepth 100000 in
theorem tX5_gain_2 : xdec cX5_gain lX5_gain_2 = true := by decide +kernel
def lJ9_max_7cf53_0 : List (Nat × Instr × Nat) := [(0, .iload_n 0, 1), (1, .iload_n 1, 1), (2, .if_icmp .lt 7, 3), (5, .iload_n 0, 1), (6, .goto 4, 3), (9, .iload_n 1, 1), (10, .ireturn, 1)]
set_option maxRecDepth 100000 in
theorem tJ9_max_7cf53_0 : xdec cJ9_max_7cf53 lJ9_max_7cf53_0 = true := by decide +kernel
def lJ9_min_7cf53_0 : List (Nat × Instr × Nat) := [(0, .iload_n 0, 1), (1, .iload_n 1, 1), (2, .if_icmp .gt 7, 3), (5, .iload_n 0, 1), (6, .goto 4, 3), (9, .iload_n 1, 1), (10, .ireturn, 1)]
set_option maxRecDepth 100000 in
theorem tJ9_min_7cf53_0 : xdec cJ9_min_7cf53 lJ9_min_7cf53_0 = true := by decide +kernel
def lJ7_fill_53178_0 : List (Nat × Instr × Nat) := [(0, .iconst 0, 1), (1, .istore_n 2, 1), (2, .aload_n 0, 1), (3, .arraylength, 1), (4, .istore_n 3, 1), (5, .iload_n 2, 1), (6, .iload_n 3, 1), (7, .if_icmp .ge 13, 3), (10, .aload_n 0, 1), (11, .iload_n 2, 1), (12, .iload_n 1, 1), (13, .iastore, 1), (14, .iinc 2 1, 3), (17, .goto (-12), 3), (20, .return_, 1)]
set_option maxRecDepth 100000 in
theorem tJ7_fill_53178_0 : xdec cJ7_fill_53178 lJ7_fill_53178_0 = true := by decide +kernel
def lJ7_copyOf_59c91_0 : List (Nat × Instr × Nat) := [(0, .iload_n 1, 1), (1, .aload_n 0, 1), (2, .arraylength, 1), (3, .if_icmp .ne 11, 3), (6, .aload_n 0, 1), (7, .invokevirtual 316, 3), (10, .checkcast 317, 3), (13, .areturn, 1), (14, .iload_n 1, 1), (15, .newarray .int, 2), (17, .astore_n 2, 1), (18, .aload_n 0, 1), (19, .iconst 0, 1), (20, .aload_n 2, 1), (21, .iconst 0, 1), (22, .aload_n 0, 1), (23, .arraylength, 1), (24, .iload_n 1, 1), (25, .invokestatic 304, 3), (28, .invokestatic 150, 3), (31, .aload_n 2, 1), (32, .areturn, 1)]
set_option maxRecDepth 100000 in
theorem tJ7_copyOf_59c91_0 : xdec cJ7_copyOf_59c91 lJ7_copyOf_59c91_0 = true := by decide +kernel
def lL_post_0 : List (Nat × Instr × Nat) := [(0, .aload_n 1, 1), (1, .iconst 0, 1), (2, .aload_n 0, 1), (3, .invokevirtual 7, 3), (6, .i2l, 1), (7, .lastore, 1), (8, .goto 6, 3), (11, .astore_n 2, 1), (12, .iconst 1, 1), (13, .ireturn, 1), (14, .iconst 0, 1), (15, .ireturn, 1)]
set_option maxRecDepth 100000 in
theorem tL_post_0 : xdec cL_post lL_post_0 = true := by decide +kernel
def lL_rates_0 : List (Nat × Instr × Nat) := [(0, .aload_n 0, 1), (1, .iload_n 1, 1), (2, .iload_n 2, 1), (3, .iload_n 3, 1), (4, .iload 4, 2), (6, .invokevirtual 15, 3), (9, .goto 11, 3), (12, .astore 5, 2), (14, .iconst 1, 1), (15, .ireturn, 1), (16, .astore 5, 2), (18, .iconst 2, 1), (19, .ireturn, 1), (20, .iconst 0, 1), (21, .ireturn, 1)]
set_option maxRecDepth 100000 in
theorem tL_rates_0 : xdec cL_rates lL_rates_0 = true := by decide +kernel
def lL_due_0 : List (Nat × Instr × Nat) := [(0, .aload 4, 2), (2, .iconst 0, 1), (3, .aload_n 0, 1), (4, .iload_n 1, 1), (5, .iload_n 2, 1), (6, .iload_n 3, 1), (7, .invokevirtual 23, 3), (10, .i2l, 1), (11, .lastore, 1), (12, .goto 11, 3), (15, .astore 5, 2), (17, .iconst 1, 1), (18, .ireturn, 1), (19, .astore 5, 2), (21, .iconst 2, 1), (22, .ireturn, 1), (23, .iconst 0, 1), (24, .ireturn, 1)]
set_option maxRecDepth 100000 in
theorem tL_due_0 : xdec cL_due lL_due_0 = true := by decide +kernel
def lL_charge_0 : List (Nat × Instr × Nat) := [(0, .aload_n 3, 1), (1, .iconst 0, 1), (2, .aload_n 0, 1), (3, .iload_n 1, 1), (4, .iload_n 2, 1), (5, .invokevirtual 27, 3), (8, .i2l, 1), (9, .lastore, 1), (10, .goto 11, 3), (13, .astore 4, 2), (15, .iconst 1, 1), (16, .ireturn, 1), (17, .astore 4, 2), (19, .iconst 2, 1), (20, .ireturn, 1), (21, .iconst 0, 1), (22, .ireturn, 1)]
set_option maxRecDepth 100000 in
theorem tL_charge_0 : xdec cL_charge lL_charge_0 = true := by decide +kernel
def lL_coupon_0 : List (Nat × Instr × Nat) := [(0, .aload_n 3, 1), (1, .iconst 0, 1), (2, .aload_n 0, 1), (3, .iload_n 1, 1), (4, .iload_n 2, 1), (5, .invokevirtual 31, 3), (8, .i2l, 1), (9, .lastore, 1), (10, .goto 11, 3), (13, .astore 4, 2), (15, .iconst 1, 1), (16, .ireturn, 1), (17, .astore 4, 2), (19, .iconst 2, 1), (20, .ireturn, 1), (21, .iconst 0, 1), (22, .ireturn, 1)]
set_option maxRecDepth 100000 in
theorem tL_coupon_0 : xdec cL_coupon lL_coupon_0 = true := by decide +kernel
def lL_strike_0 : List (Nat × Instr × Nat) := [(0, .aload_n 3, 1), (1, .iconst 0, 1), (2, .aload_n 0, 1), (3, .iload_n 1, 1), (4, .iload_n 2, 1), (5, .invokevirtual 34, 3), (8, .ifCond .eq 7, 3), (11, .lconst 1, 1), (12, .goto 4, 3), (15, .lconst 0, 1), (16, .lastore, 1), (17, .goto 7, 3), (20, .astore 4, 2), (22, .iconst 1, 1), (23, .ireturn, 1), (24, .iconst 0, 1), (25, .ireturn, 1)]
set_option maxRecDepth 100000 in
theorem tL_strike_0 : xdec cL_strike lL_strike_0 = true := by decide +kernel
def lL_leg_0 : List (Nat × Instr × Nat) := [(0, .aload 4, 2), (2, .iconst 0, 1), (3, .aload_n 0, 1), (4, .iload_n 1, 1), (5, .iload_n 2, 1), (6, .iload_n 3, 1), (7, .invokevirtual 38, 3), (10, .i2l, 1), (11, .lastore, 1), (12, .goto 15, 3), (15, .astore 5, 2), (17, .iconst 1, 1), (18, .ireturn, 1), (19, .astore 5, 2), (21, .iconst 2, 1), (22, .ireturn, 1), (23, .astore 5, 2), (25, .iconst 3, 1), (26, .ireturn, 1), (27, .iconst 0, 1), (28, .ireturn, 1)]
set_option maxRecDepth 100000 in
theorem tL_leg_0 : xdec cL_leg lL_leg_0 = true := by decide +kernel
def lL_close_0 : List (Nat × Instr × Nat) := [(0, .aload_n 3, 1), (1, .iconst 0, 1), (2, .aload_n 0, 1), (3, .iload_n 1, 1), (4, .iload_n 2, 1), (5, .invokevirtual 41, 3), (8, .ifCond .eq 7, 3), (11, .lconst 1, 1), (12, .goto 4, 3), (15, .lconst 0, 1), (16, .lastore, 1), (17, .goto 7, 3), (20, .astore 4, 2), (22, .iconst 1, 1), (23, .ireturn, 1), (24, .iconst 0, 1), (25, .ireturn, 1)]
set_option maxRecDepth 100000 in
theorem tL_close_0 : xdec cL_close lL_close_0 = true := by decide +kernel
def lL_days_0 : List (Nat × Instr × Nat) := [(0, .aload_n 3, 1), (1, .iconst 0, 1), (2, .aload_n 0, 1), (3, .iload_n 1, 1), (4, .iload_n 2, 1), (5, .invokevirtual 44, 3), (8, .i2l, 1), (9, .lastore, 1), (10, .goto 7, 3), (13, .astore 4, 2), (15, .iconst 1, 1), (16, .ireturn, 1), (17, .iconst 0, 1), (18, .ireturn, 1)]
set_option maxRecDepth 100000 in
theorem tL_days_0 : xdec cL_days lL_days_0 = true := by decide +kernel
def lL_daysAnew_0 : List (Nat × Instr × Nat) := [(0, .aload_n 3, 1), (1, .iconst 0, 1), (2, .aload_n 0, 1), (3, .iload_n 1, 1), (4, .iload_n 2, 1), (5, .invokevirtual 47, 3), (8, .i2l, 1), (9, .lastore, 1), (10, .goto 7, 3), (13, .astore 4, 2), (15, .iconst 1, 1), (16, .ireturn, 1), (17, .iconst 0, 1), (18, .ireturn, 1)]
set_option maxRecDepth 100000 in
theorem tL_daysAnew_0 : xdec cL_daysAnew lL_daysAnew_0 = true := by decide +kernel
def lL_next_0 : List (Nat × Instr × Nat) := [(0, .aload_n 3, 1), (1, .iconst 0, 1), (2, .aload_n 0, 1), (3, .iload_n 1, 1), (4, .iload_n 2, 1), (5, .invokevirtual 50, 3), (8, .i2l, 1), (9, .lastore, 1), (10, .goto 7, 3), (13, .astore 4, 2), (15, .iconst 1, 1), (16, .ireturn, 1), (17, .iconst 0, 1), (18, .ireturn, 1)]
set_option maxRecDepth 100000 in
theorem tL_next_0 : xdec cL_next lL_next_0 = true := by decide +kernel
def lL_mail_0 : List (Nat × Instr × Nat) := [(0, .aload 7, 2), (2, .iconst 0, 1), (3, .aload_n 0, 1), (4, .iload_n 1, 1), (5, .iload_n 2, 1), (6, .iload_n 3, 1), (7, .iload 4, 2), (9, .iload 5, 2), (11, .iload 6, 2), (13, .invokevirtual 53, 3), (16, .i2l, 1), (17, .lastore, 1), (18, .goto 15, 3), (21, .astore 8, 2), (23, .iconst 1, 1), (24, .ireturn, 1), (25, .astore 8, 2), (27, .iconst 2, 1), (28, .ireturn, 1), (29, .astore 8, 2), (31, .iconst 3, 1), (32, .ireturn, 1), (33, .iconst 0, 1), (34, .ireturn, 1)]
set_option maxRecDepth 100000 in
theorem tL_mail_0 : xdec cL_mail lL_mail_0 = true := by decide +kernel
def lL_redirect_0 : List (Nat × Instr × Nat) := [(0, .aload_n 3, 1), (1, .iconst 0, 1), (2, .aload_n 0, 1), (3, .iload_n 1, 1), (4, .iload_n 2, 1), (5, .invokevirtual 57, 3), (8, .i2l, 1), (9, .lastore, 1), (10, .goto 15, 3), (13, .astore 4, 2), (15, .iconst 1, 1), (16, .ireturn, 1), (17, .astore 4, 2), (19, .iconst 2, 1), (20, .ireturn, 1), (21, .astore 4, 2), (23, .iconst 3, 1), (24, .ireturn, 1), (25, .iconst 0, 1), (26, .ireturn, 1)]
set_option maxRecDepth 100000 in
theorem tL_redirect_0 : xdec cL_redirect lL_redirect_0 = true := by decide +kernel
def lL_refuse_0 : List (Nat × Instr × Nat) := [(0, .aload_n 3, 1), (1, .iconst 0, 1), (2, .aload_n 0, 1), (3, .iload_n 1, 1), (4, .iload_n 2, 1), (5, .invokevirtual 60, 3), (8, .ifCond .eq 7, 3), (11, .lconst 1, 1), (12, .goto 4, 3), (15, .lconst 0, 1), (16, .lastore, 1), (17, .goto 11, 3), (20, .astore 4, 2), (22, .iconst 1, 1), (23, .ireturn, 1), (24, .astore 4, 2), (26, .iconst 2, 1), (27, .ireturn, 1), (28, .iconst 0, 1), (29, .ireturn, 1)]
set_option maxRecDepth 100000 in
theorem tL_refuse_0 : xdec cL_refuse lL_refuse_0 = true := by decide +kernel
def lL_go_0 : List (Nat × Instr × Nat) := [(0, .aload_n 2, 1), (1, .iconst 0, 1), (2, .aload_n 0, 1), (3, .iload_n 1, 1), (4, .invokevirtual 63, 3), (7, .i2l, 1), (8, .lastore, 1), (9, .goto 6, 3), (12, .astore_n 3, 1), (13, .iconst 1, 1), (14, .ireturn, 1), (15, .iconst 0, 1), (16, .ireturn, 1)]
set_option maxRecDepth 100000 in
theorem tL_go_0 : xdec cL_go lL_go_0 = true := by decide +kernel
def lL_lose_0 : List (Nat × Instr × Nat) := [(0, .aload_n 2, 1), (1, .iconst 0, 1), (2, .aload_n 0, 1), (3, .iload_n 1, 1), (4, .invokevirtual 67, 3), (7, .i2l, 1), (8, .lastore, 1), (9, .goto 9, 3), (12, .astore_n 3, 1), (13, .iconst 1, 1), (14, .ireturn, 1), (15, .astore_n 3, 1), (16, .iconst 2, 1), (17, .ireturn, 1), (18, .iconst 0, 1), (19, .ireturn, 1)]
set_option maxRecDepth 100000 in
theorem tL_lose_0 : xdec cL_lose lL_lose_0 = true := by decide +kernel
def lL_claim_0 : List (Nat × Instr × Nat) := [(0, .aload_n 2, 1), (1, .iconst 0, 1), (2, .aload_n 0, 1), (3, .iload_n 1, 1), (4, .invokevirtual 70, 3), (7, .i2l, 1), (8, .lastore, 1), (9, .goto 9, 3), (12, .astore_n 3, 1), (13, .iconst 1, 1), (14, .ireturn, 1), (15, .astore_n 3, 1), (16, .iconst 2, 1), (17, .ireturn, 1), (18, .iconst 0, 1), (19, .ireturn, 1)]
set_option maxRecDepth 100000 in
theorem tL_claim_0 : xdec cL_claim lL_claim_0 = true := by decide +kernel
def lL_settle_0 : List (Nat × Instr × Nat) := [(0, .aload_n 2, 1), (1, .iconst 0, 1), (2, .aload_n 0, 1), (3, .iload_n 1, 1), (4, .invokevirtual 73, 3), (7, .lastore, 1), (8, .goto 6, 3), (11, .astore_n 3, 1), (12, .iconst 1, 1), (13, .ireturn, 1), (14, .iconst 0, 1), (15, .ireturn, 1)]
set_option maxRecDepth 100000 in
theorem tL_settle_0 : xdec cL_settle lL_settle_0 = true := by decide +kernel
def lL_rate_0 : List (Nat × Instr × Nat) := [(0, .aload 5, 2), (2, .iconst 0, 1), (3, .aload_n 0, 1), (4, .iload_n 1, 1), (5, .iload_n 2, 1), (6, .iload_n 3, 1), (7, .iload 4, 2), (9, .invokevirtual 77, 3), (12, .i2l, 1), (13, .lastore, 1), (14, .goto 11, 3), (17, .astore 6, 2), (19, .iconst 1, 1), (20, .ireturn, 1), (21, .astore 6, 2), (23, .iconst 2, 1), (24, .ireturn, 1), (25, .iconst 0, 1), (26, .ireturn, 1)]
set_option maxRecDepth 100000 in
theorem tL_rate_0 : xdec cL_rate lL_rate_0 = true := by decide +kernel
def lL_ofThing_0 : List (Nat × Instr × Nat) := [(0, .aload_n 3, 1), (1, .iconst 0, 1), (2, .aload_n 0, 1), (3, .iload_n 1, 1), (4, .iload_n 2, 1), (5, .invokevirtual 81, 3), (8, .lastore, 1), (9, .goto 11, 3), (12, .astore 4, 2), (14, .iconst 1, 1), (15, .ireturn, 1), (16, .astore 4, 2), (18, .iconst 2, 1), (19, .ireturn, 1), (20, .iconst 0, 1), (21, .ireturn, 1)]
set_option maxRecDepth 100000 in
theorem tL_ofThing_0 : xdec cL_ofThing lL_ofThing_0 = true := by decide +kernel
def lL_hand_0 : List (Nat × Instr × Nat) := [(0, .aload_n 3, 1), (1, .iconst 0, 1), (2, .aload_n 0, 1), (3, .iload_n 1, 1), (4, .iload_n 2, 1), (5, .invokevirtual 85, 3), (8, .i2l, 1), (9, .lastore, 1), (10, .goto 7, 3), (13, .astore 4, 2), (15, .iconst 1, 1), (16, .ireturn, 1), (17, .iconst 0, 1), (18, .ireturn, 1)]
set_option maxRecDepth 100000 in
theorem tL_hand_0 : xdec cL_hand lL_hand_0 = true := by decide +kernel
def lL_account_0 : List (Nat × Instr × Nat) := [(0, .aload_n 2, 1), (1, .iconst 0, 1), (2, .aload_n 0, 1), (3, .iload_n 1, 1), (4, .invokevirtual 88, 3), (7, .lastore, 1), (8, .goto 6, 3), (11, .astore_n 3, 1), (12, .iconst 1, 1), (13, .ireturn, 1), (14, .iconst 0, 1), (15, .ireturn, 1)]
set_option maxRecDepth 100000 in
theorem tL_account_0 : xdec cL_account lL_account_0 = true := by decide +kernel
def lL_till_0 : List (Nat × Instr × Nat) := [(0, .aload_n 2, 1), (1, .iconst 0, 1), (2, .aload_n 0, 1), (3, .iload_n 1, 1), (4, .invokevirtual 91, 3), (7, .lastore, 1), (8, .goto 6, 3), (11, .astore_n 3, 1), (12, .iconst 1, 1), (13, .ireturn, 1), (14, .iconst 0, 1), (15, .ireturn, 1)]
set_option maxRecDepth 100000 in
theorem tL_till_0 : xdec cL_till lL_till_0 = true := by decide +kernel
def lL_counted_0 : List (Nat × Instr × Nat) := [(0, .aload_n 3, 1), (1, .iconst 0, 1), (2, .aload_n 0, 1), (3, .iload_n 1, 1), (4, .iload_n 2, 1), (5, .invokevirtual 94, 3), (8, .lastore, 1), (9, .goto 7, 3), (12, .astore 4, 2), (14, .iconst 1, 1), (15, .ireturn, 1), (16, .iconst 0, 1), (17, .ireturn, 1)]
set_option maxRecDepth 100000 in
theorem tL_counted_0 : xdec cL_counted lL_counted_0 = true := by decide +kernel
def lL_gain_0 : List (Nat × Instr × Nat) := [(0, .aload_n 2, 1), (1, .iconst 0, 1), (2, .aload_n 0, 1), (3, .iload_n 1, 1), (4, .invokevirtual 97, 3), (7, .i2l, 1), (8, .lastore, 1), (9, .goto 6, 3), (12, .astore_n 3, 1), (13, .iconst 1, 1), (14, .ireturn, 1), (15, .iconst 0, 1), (16, .ireturn, 1)]
set_option maxRecDepth 100000 in
theorem tL_gain_0 : xdec cL_gain lL_gain_0 = true := by decide +kernel
