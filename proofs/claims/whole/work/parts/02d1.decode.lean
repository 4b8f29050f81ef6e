def lX4_redirect_0 : List (Nat × Instr × Nat) := [(0, .aload_n 0, 1), (1, .iload_n 1, 1), (2, .invokevirtual 139, 3), (5, .astore_n 3, 1), (6, .aload_n 0, 1), (7, .iload_n 2, 1), (8, .invokevirtual 49, 3), (11, .astore 4, 2), (13, .aload_n 3, 1), (14, .getfield 143, 3), (17, .ifCond .ne 22, 3), (20, .aload_n 3, 1), (21, .getfield 146, 3), (24, .aload 4, 2), (26, .if_acmp .ne 13, 3), (29, .new 79, 3), (32, .dup, 1), (33, .ldc 150, 2), (35, .invokespecial 83, 3), (38, .athrow, 1), (39, .aload_n 3, 1), (40, .invokestatic 152, 3), (43, .aload_n 3, 1), (44, .getfield 156, 3), (47, .getfield 159, 3), (50, .istore 5, 2), (52, .aload_n 3, 1), (53, .aload 4, 2), (55, .putfield 156, 3), (58, .iload 5, 2), (60, .ireturn, 1)]
set_option maxRecDepth 100000 in
theorem tX4_redirect_0 : xdec cX4_redirect lX4_redirect_0 = true := by decide +kernel
def lX4_refuse_0 : List (Nat × Instr × Nat) := [(0, .aload_n 0, 1), (1, .iload_n 1, 1), (2, .invokevirtual 139, 3), (5, .astore_n 3, 1), (6, .aload_n 3, 1), (7, .invokestatic 152, 3), (10, .aload_n 3, 1), (11, .getfield 162, 3), (14, .istore 4, 2), (16, .aload_n 3, 1), (17, .iload_n 2, 1), (18, .putfield 162, 3), (21, .iload 4, 2), (23, .ireturn, 1)]
set_option maxRecDepth 100000 in
theorem tX4_refuse_0 : xdec cX4_refuse lX4_refuse_0 = true := by decide +kernel
def lX4_go_0 : List (Nat × Instr × Nat) := [(0, .iload_n 1, 1), (1, .iconst 1, 1), (2, .sipush 200, 3), (5, .invokestatic 56, 3), (8, .iconst 0, 1), (9, .istore_n 2, 1), (10, .iconst 0, 1), (11, .istore_n 3, 1), (12, .iload_n 3, 1), (13, .iload_n 1, 1), (14, .if_icmp .ge 20, 3), (17, .iload_n 2, 1), (18, .aload_n 0, 1), (19, .invokevirtual 165, 3), (22, .iadd, 1), (23, .istore_n 2, 1), (24, .aload_n 0, 1), (25, .invokevirtual 169, 3), (28, .iinc 3 1, 3), (31, .goto (-19), 3), (34, .iload_n 2, 1), (35, .ireturn, 1)]
set_option maxRecDepth 100000 in
theorem tX4_go_0 : xdec cX4_go lX4_go_0 = true := by decide +kernel
def lX4_lose_0 : List (Nat × Instr × Nat) := [(0, .aload_n 0, 1), (1, .iload_n 1, 1), (2, .invokevirtual 139, 3), (5, .astore_n 2, 1), (6, .aload_n 2, 1), (7, .invokevirtual 172, 3), (10, .ifCond .ne 13, 3), (13, .new 39, 3), (16, .dup, 1), (17, .ldc 176, 2), (19, .invokespecial 43, 3), (22, .athrow, 1), (23, .aload_n 2, 1), (24, .iconst 3, 1), (25, .putfield 143, 3), (28, .aload_n 2, 1), (29, .iconst 0, 1), (30, .putfield 178, 3), (33, .aload_n 2, 1), (34, .invokevirtual 181, 3), (37, .ireturn, 1)]
set_option maxRecDepth 100000 in
theorem tX4_lose_0 : xdec cX4_lose lX4_lose_0 = true := by decide +kernel
def lX4_claim_0 : List (Nat × Instr × Nat) := [(0, .aload_n 0, 1), (1, .iload_n 1, 1), (2, .invokevirtual 139, 3), (5, .astore_n 2, 1), (6, .aload_n 2, 1), (7, .getfield 143, 3), (10, .iconst 3, 1), (11, .if_icmp .ne 17, 3), (14, .aload_n 2, 1), (15, .getfield 184, 3), (18, .ifCond .eq 10, 3), (21, .aload_n 2, 1), (22, .getfield 187, 3), (25, .ifCond .eq 13, 3), (28, .new 39, 3), (31, .dup, 1), (32, .ldc 190, 2), (34, .invokespecial 43, 3), (37, .athrow, 1), (38, .aload_n 2, 1), (39, .iconst 1, 1), (40, .putfield 187, 3), (43, .aload_n 2, 1), (44, .getfield 192, 3), (47, .dup, 1), (48, .getfield 132, 3), (51, .ldc2_w 195, 3), (54, .lsub, 1), (55, .putfield 132, 3), (58, .aload_n 2, 1), (59, .getfield 197, 3), (62, .astore_n 3, 1), (63, .aload_n 3, 1), (64, .ifnonnull 18, 3), (67, .aload_n 2, 1), (68, .getfield 146, 3), (71, .aload_n 2, 1), (72, .getfield 192, 3), (75, .sipush 4000, 3), (78, .invokestatic 201, 3)]
set_option maxRecDepth 100000 in
theorem tX4_claim_0 : xdec cX4_claim lX4_claim_0 = true := by decide +kernel
def lX4_claim_1 : List (Nat × Instr × Nat) := [(81, .ireturn, 1), (82, .aload_n 3, 1), (83, .getfield 204, 3), (86, .aload_n 2, 1), (87, .getfield 192, 3), (90, .sipush 2000, 3), (93, .invokestatic 201, 3), (96, .aload_n 3, 1), (97, .getfield 209, 3), (100, .aload_n 2, 1), (101, .getfield 192, 3), (104, .sipush 2000, 3), (107, .invokestatic 201, 3), (110, .iadd, 1), (111, .ireturn, 1)]
set_option maxRecDepth 100000 in
theorem tX4_claim_1 : xdec cX4_claim lX4_claim_1 = true := by decide +kernel
def lX4_sample_0 : List (Nat × Instr × Nat) := [(0, .aload_n 0, 1), (1, .getfield 35, 3), (4, .istore_n 2, 1), (5, .aload_n 0, 1), (6, .iload_n 1, 1), (7, .putfield 35, 3), (10, .iload_n 2, 1), (11, .ireturn, 1)]
set_option maxRecDepth 100000 in
theorem tX4_sample_0 : xdec cX4_sample lX4_sample_0 = true := by decide +kernel
def lX4_settle_0 : List (Nat × Instr × Nat) := [(0, .iload_n 1, 1), (1, .iconst 1, 1), (2, .sipush 1000, 3), (5, .invokestatic 56, 3), (8, .lconst 0, 1), (9, .lstore_n 2, 1), (10, .iconst 0, 1), (11, .istore 4, 2), (13, .iload 4, 2), (15, .aload_n 0, 1), (16, .getfield 28, 3), (19, .if_icmp .ge 48, 3), (22, .iconst 0, 1), (23, .istore 5, 2), (25, .iload 5, 2), (27, .aload_n 0, 1), (28, .getfield 28, 3), (31, .if_icmp .ge 30, 3), (34, .lload_n 2, 1), (35, .aload_n 0, 1), (36, .getfield 11, 3), (39, .iload 4, 2), (41, .aaload, 1), (42, .aload_n 0, 1), (43, .getfield 11, 3), (46, .iload 5, 2), (48, .aaload, 1), (49, .iload_n 1, 1), (50, .invokestatic 212, 3), (53, .ladd, 1), (54, .lstore_n 2, 1), (55, .iinc 5 1, 3), (58, .goto (-33), 3), (61, .iinc 4 1, 3), (64, .goto (-51), 3), (67, .lload_n 2, 1), (68, .lreturn, 1)]
set_option maxRecDepth 100000 in
theorem tX4_settle_0 : xdec cX4_settle lX4_settle_0 = true := by decide +kernel
def lX4_rate_0 : List (Nat × Instr × Nat) := [(0, .aload_n 0, 1), (1, .iload_n 2, 1), (2, .invokevirtual 49, 3), (5, .astore 5, 2), (7, .iload_n 1, 1), (8, .invokestatic 53, 3), (11, .iload_n 1, 1), (12, .iload_n 3, 1), (13, .invokestatic 113, 3), (16, .aload 5, 2), (18, .iload_n 1, 1), (19, .iload_n 3, 1), (20, .iload 4, 2), (22, .invokevirtual 122, 3), (25, .ireturn, 1)]
set_option maxRecDepth 100000 in
theorem tX4_rate_0 : xdec cX4_rate lX4_rate_0 = true := by decide +kernel
def lX4_ofThing_0 : List (Nat × Instr × Nat) := [(0, .aload_n 0, 1), (1, .iload_n 1, 1), (2, .invokevirtual 139, 3), (5, .astore_n 3, 1), (6, .iload_n 2, 1), (7, .tableswitch 95 0 6 #[41, 47, 56, 62, 71, 76, 89], 41), (48, .aload_n 3, 1), (49, .getfield 143, 3), (52, .i2l, 1), (53, .lreturn, 1), (54, .aload_n 3, 1), (55, .getfield 146, 3), (58, .getfield 159, 3), (61, .i2l, 1), (62, .lreturn, 1), (63, .aload_n 3, 1), (64, .getfield 178, 3), (67, .i2l, 1), (68, .lreturn, 1), (69, .aload_n 3, 1), (70, .getfield 156, 3), (73, .getfield 159, 3), (76, .i2l, 1), (77, .lreturn, 1), (78, .aload_n 3, 1), (79, .invokevirtual 216, 3), (82, .lreturn, 1), (83, .aload_n 3, 1), (84, .getfield 220, 3), (87, .ifCond .eq 7, 3), (90, .lconst 1, 1), (91, .goto 4, 3), (94, .lconst 0, 1), (95, .lreturn, 1), (96, .aload_n 3, 1), (97, .getfield 223, 3), (100, .i2l, 1), (101, .lreturn, 1), (102, .new 79, 3), (105, .dup, 1)]
set_option maxRecDepth 100000 in
theorem tX4_ofThing_0 : xdec cX4_ofThing lX4_ofThing_0 = true := by decide +kernel
def lX4_ofThing_1 : List (Nat × Instr × Nat) := [(106, .ldc 226, 2), (108, .invokespecial 83, 3), (111, .athrow, 1)]
set_option maxRecDepth 100000 in
theorem tX4_ofThing_1 : xdec cX4_ofThing lX4_ofThing_1 = true := by decide +kernel
def lX4_hand_0 : List (Nat × Instr × Nat) := [(0, .aload_n 0, 1), (1, .iload_n 1, 1), (2, .invokevirtual 139, 3), (5, .astore_n 3, 1), (6, .iload_n 2, 1), (7, .ifCond .lt 11, 3), (10, .iload_n 2, 1), (11, .aload_n 3, 1), (12, .getfield 223, 3), (15, .if_icmp .lt 13, 3), (18, .new 94, 3), (21, .dup, 1), (22, .ldc 228, 2), (24, .invokespecial 98, 3), (27, .athrow, 1), (28, .aload_n 3, 1), (29, .getfield 230, 3), (32, .iload_n 2, 1), (33, .iaload, 1), (34, .ireturn, 1)]
set_option maxRecDepth 100000 in
theorem tX4_hand_0 : xdec cX4_hand lX4_hand_0 = true := by decide +kernel
def lX4_account_0 : List (Nat × Instr × Nat) := [(0, .aload_n 0, 1), (1, .iload_n 1, 1), (2, .invokevirtual 49, 3), (5, .getfield 233, 3), (8, .lreturn, 1)]
set_option maxRecDepth 100000 in
theorem tX4_account_0 : xdec cX4_account lX4_account_0 = true := by decide +kernel
def lX4_till_0 : List (Nat × Instr × Nat) := [(0, .aload_n 0, 1), (1, .iload_n 1, 1), (2, .invokevirtual 49, 3), (5, .getfield 132, 3), (8, .lreturn, 1)]
set_option maxRecDepth 100000 in
theorem tX4_till_0 : xdec cX4_till lX4_till_0 = true := by decide +kernel
def lX4_counted_0 : List (Nat × Instr × Nat) := [(0, .aload_n 0, 1), (1, .iload_n 1, 1), (2, .invokevirtual 49, 3), (5, .astore_n 3, 1), (6, .aload_n 0, 1), (7, .iload_n 2, 1), (8, .invokevirtual 49, 3), (11, .astore 4, 2), (13, .aload_n 3, 1), (14, .getfield 236, 3), (17, .aload 4, 2), (19, .getfield 159, 3), (22, .laload, 1), (23, .lreturn, 1)]
set_option maxRecDepth 100000 in
theorem tX4_counted_0 : xdec cX4_counted lX4_counted_0 = true := by decide +kernel
def lX4_gain_0 : List (Nat × Instr × Nat) := [(0, .iload_n 1, 1), (1, .iconst 0, 1), (2, .iconst 2, 1), (3, .invokestatic 56, 3), (6, .iconst 0, 1), (7, .istore_n 2, 1), (8, .iconst (-1), 1), (9, .istore_n 3, 1), (10, .iconst (-1), 1), (11, .istore 4, 2), (13, .iconst 0, 1), (14, .istore 5, 2), (16, .iload 5, 2), (18, .aload_n 0, 1), (19, .getfield 28, 3), (22, .if_icmp .ge 62, 3), (25, .iconst 0, 1), (26, .istore 6, 2), (28, .iload 6, 2), (30, .aload_n 0, 1), (31, .getfield 28, 3), (34, .if_icmp .ge 44, 3), (37, .aload_n 0, 1), (38, .getfield 11, 3), (41, .iload 5, 2), (43, .aaload, 1), (44, .aload_n 0, 1), (45, .getfield 11, 3), (48, .iload 6, 2), (50, .aaload, 1), (51, .invokestatic 240, 3), (54, .istore 7, 2), (56, .iload 7, 2), (58, .iload_n 2, 1), (59, .if_icmp .le 13, 3), (62, .iload 7, 2), (64, .istore_n 2, 1), (65, .iload 5, 2), (67, .istore_n 3, 1), (68, .iload 6, 2)]
set_option maxRecDepth 100000 in
theorem tX4_gain_0 : xdec cX4_gain lX4_gain_0 = true := by decide +kernel
def lX4_gain_1 : List (Nat × Instr × Nat) := [(70, .istore 4, 2), (72, .iinc 6 1, 3), (75, .goto (-47), 3), (78, .iinc 5 1, 3), (81, .goto (-65), 3), (84, .iload_n 2, 1), (85, .ifCond .ne 5, 3), (88, .iconst (-1), 1), (89, .ireturn, 1), (90, .iload_n 1, 1), (91, .ifCond .ne 7, 3), (94, .iload_n 2, 1), (95, .goto 14, 3), (98, .iload_n 1, 1), (99, .iconst 1, 1), (100, .if_icmp .ne 7, 3), (103, .iload_n 3, 1), (104, .goto 5, 3), (107, .iload 4, 2), (109, .ireturn, 1)]
set_option maxRecDepth 100000 in
theorem tX4_gain_1 : xdec cX4_gain lX4_gain_1 = true := by decide +kernel
def lX4_postOf_0 : List (Nat × Instr × Nat) := [(0, .iload_n 1, 1), (1, .ifCond .lt 11, 3), (4, .iload_n 1, 1), (5, .aload_n 0, 1), (6, .getfield 28, 3), (9, .if_icmp .lt 13, 3), (12, .new 94, 3), (15, .dup, 1), (16, .ldc 243, 2), (18, .invokespecial 98, 3), (21, .athrow, 1), (22, .aload_n 0, 1), (23, .getfield 11, 3), (26, .iload_n 1, 1), (27, .aaload, 1), (28, .areturn, 1)]
set_option maxRecDepth 100000 in
theorem tX4_postOf_0 : xdec cX4_postOf lX4_postOf_0 = true := by decide +kernel
def lX4_thingOf_0 : List (Nat × Instr × Nat) := [(0, .iload_n 1, 1), (1, .ifCond .lt 11, 3), (4, .iload_n 1, 1), (5, .aload_n 0, 1), (6, .getfield 32, 3), (9, .if_icmp .lt 13, 3), (12, .new 94, 3), (15, .dup, 1), (16, .ldc 245, 2), (18, .invokespecial 98, 3), (21, .athrow, 1), (22, .aload_n 0, 1), (23, .getfield 17, 3), (26, .iload_n 1, 1), (27, .aaload, 1), (28, .areturn, 1)]
set_option maxRecDepth 100000 in
theorem tX4_thingOf_0 : xdec cX4_thingOf lX4_thingOf_0 = true := by decide +kernel
def lX4_demandWithin_0 : List (Nat × Instr × Nat) := [(0, .iload_n 0, 1), (1, .iload_n 1, 1), (2, .if_icmp .lt 8, 3), (5, .iload_n 0, 1), (6, .iload_n 2, 1), (7, .if_icmp .le 13, 3), (10, .new 79, 3), (13, .dup, 1), (14, .ldc 247, 2), (16, .invokespecial 83, 3), (19, .athrow, 1), (20, .return_, 1)]
set_option maxRecDepth 100000 in
theorem tX4_demandWithin_0 : xdec cX4_demandWithin lX4_demandWithin_0 = true := by decide +kernel
def lX4_demandKind_0 : List (Nat × Instr × Nat) := [(0, .iload_n 0, 1), (1, .iconst 0, 1), (2, .iconst 2, 1), (3, .invokestatic 56, 3), (6, .return_, 1)]
set_option maxRecDepth 100000 in
theorem tX4_demandKind_0 : xdec cX4_demandKind lX4_demandKind_0 = true := by decide +kernel
def lX4_demandGrams_0 : List (Nat × Instr × Nat) := [(0, .iload_n 1, 1), (1, .iconst 1, 1), (2, .iload_n 0, 1), (3, .iconst 1, 1), (4, .if_icmp .ne 8, 3), (7, .bipush 20, 2), (9, .goto 6, 3), (12, .sipush 2000, 3), (15, .invokestatic 56, 3), (18, .return_, 1)]
set_option maxRecDepth 100000 in
theorem tX4_demandGrams_0 : xdec cX4_demandGrams lX4_demandGrams_0 = true := by decide +kernel
def lX4_demandChangeable_0 : List (Nat × Instr × Nat) := [(0, .aload_n 0, 1), (1, .invokevirtual 172, 3), (4, .ifCond .eq 10, 3), (7, .aload_n 0, 1), (8, .getfield 220, 3), (11, .ifCond .eq 13, 3), (14, .new 39, 3), (17, .dup, 1), (18, .ldc 249, 2), (20, .invokespecial 43, 3), (23, .athrow, 1), (24, .return_, 1)]
set_option maxRecDepth 100000 in
theorem tX4_demandChangeable_0 : xdec cX4_demandChangeable lX4_demandChangeable_0 = true := by decide +kernel
def lX4_moveThoseThatTravel_0 : List (Nat × Instr × Nat) := [(0, .iconst 0, 1), (1, .istore_n 1, 1), (2, .iconst 0, 1), (3, .istore_n 2, 1), (4, .iload_n 2, 1), (5, .aload_n 0, 1), (6, .getfield 32, 3), (9, .if_icmp .ge 63, 3), (12, .aload_n 0, 1), (13, .getfield 17, 3), (16, .iload_n 2, 1), (17, .aaload, 1), (18, .astore_n 3, 1), (19, .aload_n 3, 1), (20, .getfield 143, 3), (23, .iconst 1, 1), (24, .if_icmp .ne 42, 3), (27, .aload_n 3, 1), (28, .invokevirtual 251, 3), (31, .ifCond .eq 35, 3), (34, .aload_n 3, 1), (35, .getfield 146, 3), (38, .aload_n 3, 1), (39, .getfield 156, 3), (42, .if_acmp .ne 24, 3), (45, .aload_n 0, 1), (46, .aload_n 3, 1), (47, .invokevirtual 254, 3), (50, .iload_n 1, 1), (51, .aload_n 3, 1), (52, .getfield 143, 3), (55, .iconst 2, 1), (56, .if_icmp .ne 7, 3), (59, .iconst 1, 1), (60, .goto 4, 3), (63, .iconst 0, 1), (64, .iadd, 1), (65, .istore_n 1, 1), (66, .iinc 2 1, 3), (69, .goto (-65), 3)]
set_option maxRecDepth 100000 in
theorem tX4_moveThoseThatTravel_0 : xdec cX4_moveThoseThatTravel lX4_moveThoseThatTravel_0 = true := by decide +kernel
def lX4_moveThoseThatTravel_1 : List (Nat × Instr × Nat) := [(72, .iload_n 1, 1), (73, .ireturn, 1)]
set_option maxRecDepth 100000 in
theorem tX4_moveThoseThatTravel_1 : xdec cX4_moveThoseThatTravel lX4_moveThoseThatTravel_1 = true := by decide +kernel
def lX4_endAtTarget_0 : List (Nat × Instr × Nat) := [(0, .aload_n 1, 1), (1, .getfield 220, 3), (4, .ifCond .eq 9, 3), (7, .aload_n 1, 1), (8, .iconst 2, 1), (9, .putfield 143, 3), (12, .return_, 1), (13, .aload_n 1, 1), (14, .invokevirtual 216, 3), (17, .lstore_n 2, 1), (18, .aload_n 1, 1), (19, .getfield 162, 3), (22, .ifCond .eq 34, 3), (25, .lload_n 2, 1), (26, .lconst 0, 1), (27, .lcmp, 1), (28, .ifCond .le 28, 3), (31, .aload_n 1, 1), (32, .getfield 156, 3), (35, .aload_n 1, 1), (36, .getfield 192, 3), (39, .if_acmp .eq 17, 3), (42, .aload_n 1, 1), (43, .iconst 1, 1), (44, .putfield 220, 3), (47, .aload_n 1, 1), (48, .aload_n 1, 1), (49, .getfield 192, 3), (52, .putfield 156, 3), (55, .return_, 1), (56, .aload_n 1, 1), (57, .iconst 2, 1), (58, .putfield 143, 3), (61, .aload_n 1, 1), (62, .getfield 156, 3), (65, .dup, 1), (66, .getfield 132, 3), (69, .lload_n 2, 1), (70, .ladd, 1), (71, .putfield 132, 3)]
set_option maxRecDepth 100000 in
theorem tX4_endAtTarget_0 : xdec cX4_endAtTarget lX4_endAtTarget_0 = true := by decide +kernel
def lX4_endAtTarget_1 : List (Nat × Instr × Nat) := [(74, .aload_n 1, 1), (75, .getfield 156, 3), (78, .aload_n 1, 1), (79, .getfield 192, 3), (82, .if_acmp .eq 8, 3), (85, .aload_n 0, 1), (86, .aload_n 1, 1), (87, .invokevirtual 257, 3), (90, .return_, 1)]
set_option maxRecDepth 100000 in
theorem tX4_endAtTarget_1 : xdec cX4_endAtTarget lX4_endAtTarget_1 = true := by decide +kernel
def lX4_oweDue_0 : List (Nat × Instr × Nat) := [(0, .aload_n 1, 1), (1, .getfield 156, 3), (4, .getfield 67, 3), (7, .aload_n 1, 1), (8, .getfield 260, 3), (11, .iaload, 1), (12, .istore_n 2, 1), (13, .aload_n 1, 1), (14, .getfield 184, 3), (17, .ifCond .eq 19, 3), (20, .aload_n 1, 1), (21, .getfield 192, 3), (24, .aload_n 1, 1), (25, .getfield 156, 3), (28, .iload_n 2, 1), (29, .i2l, 1), (30, .invokestatic 263, 3), (33, .goto 30, 3), (36, .aload_n 0, 1), (37, .getfield 35, 3), (40, .ifCond .eq 23, 3), (43, .aload_n 1, 1), (44, .getfield 192, 3), (47, .getfield 236, 3), (50, .aload_n 1, 1), (51, .getfield 156, 3), (54, .getfield 159, 3), (57, .dup2, 1), (58, .laload, 1), (59, .iload_n 2, 1), (60, .i2l, 1), (61, .ladd, 1), (62, .lastore, 1), (63, .return_, 1)]
set_option maxRecDepth 100000 in
theorem tX4_oweDue_0 : xdec cX4_oweDue lX4_oweDue_0 = true := by decide +kernel
def lX4_sendThoseThatWait_0 : List (Nat × Instr × Nat) := [(0, .iconst 0, 1), (1, .istore_n 1, 1), (2, .iload_n 1, 1), (3, .aload_n 0, 1), (4, .getfield 32, 3), (7, .if_icmp .ge 38, 3), (10, .aload_n 0, 1), (11, .getfield 17, 3), (14, .iload_n 1, 1), (15, .aaload, 1), (16, .astore_n 2, 1), (17, .aload_n 2, 1), (18, .getfield 143, 3), (21, .ifCond .ne 18, 3), (24, .aload_n 2, 1), (25, .getfield 146, 3), (28, .getfield 76, 3), (31, .ifCond .ne 8, 3), (34, .aload_n 0, 1), (35, .aload_n 2, 1), (36, .invokevirtual 267, 3), (39, .iinc 1 1, 3), (42, .goto (-40), 3), (45, .return_, 1)]
set_option maxRecDepth 100000 in
theorem tX4_sendThoseThatWait_0 : xdec cX4_sendThoseThatWait lX4_sendThoseThatWait_0 = true := by decide +kernel
def lX4_sendOn_0 : List (Nat × Instr × Nat) := [(0, .aload_n 0, 1), (1, .getfield 24, 3), (4, .aload_n 0, 1), (5, .getfield 24, 3), (8, .aload_n 1, 1), (9, .getfield 146, 3), (12, .aload_n 1, 1), (13, .getfield 156, 3), (16, .invokevirtual 110, 3), (19, .invokevirtual 90, 3), (22, .astore_n 2, 1), (23, .aload_n 2, 1), (24, .ifnonnull 4, 3), (27, .return_, 1), (28, .aload_n 1, 1), (29, .getfield 146, 3), (32, .aload_n 1, 1), (33, .getfield 192, 3), (36, .if_acmp .eq 25, 3), (39, .aload_n 1, 1), (40, .getfield 192, 3), (43, .aload_n 1, 1), (44, .getfield 146, 3), (47, .aload_n 1, 1), (48, .getfield 146, 3), (51, .aload_n 1, 1), (52, .getfield 270, 3), (55, .invokevirtual 273, 3), (58, .invokestatic 263, 3), (61, .aload_n 1, 1), (62, .aload_n 2, 1), (63, .invokevirtual 277, 3), (66, .return_, 1)]
set_option maxRecDepth 100000 in
theorem tX4_sendOn_0 : xdec cX4_sendOn lX4_sendOn_0 = true := by decide +kernel
def lX4_pay_0 : List (Nat × Instr × Nat) := [(0, .aload_n 0, 1), (1, .dup, 1), (2, .getfield 233, 3), (5, .lload_n 2, 1), (6, .lsub, 1), (7, .putfield 233, 3), (10, .aload_n 1, 1), (11, .dup, 1), (12, .getfield 233, 3), (15, .lload_n 2, 1), (16, .ladd, 1), (17, .putfield 233, 3), (20, .return_, 1)]
set_option maxRecDepth 100000 in
theorem tX4_pay_0 : xdec cX4_pay lX4_pay_0 = true := by decide +kernel
def lX4_payClaim_0 : List (Nat × Instr × Nat) := [(0, .aload_n 0, 1), (1, .aload_n 1, 1), (2, .if_acmp .ne 5, 3), (5, .iconst 0, 1), (6, .ireturn, 1), (7, .aload_n 0, 1), (8, .aload_n 1, 1), (9, .iload_n 2, 1), (10, .i2l, 1), (11, .invokestatic 263, 3), (14, .iload_n 2, 1), (15, .ireturn, 1)]
set_option maxRecDepth 100000 in
theorem tX4_payClaim_0 : xdec cX4_payClaim lX4_payClaim_0 = true := by decide +kernel
def lX4_settlePair_0 : List (Nat × Instr × Nat) := [(0, .aload_n 0, 1), (1, .getfield 236, 3), (4, .aload_n 1, 1), (5, .getfield 159, 3), (8, .laload, 1), (9, .iload_n 2, 1), (10, .i2l, 1), (11, .lmul, 1), (12, .lstore_n 3, 1), (13, .aload_n 0, 1), (14, .getfield 236, 3), (17, .aload_n 1, 1), (18, .getfield 159, 3), (21, .lconst 0, 1), (22, .lastore, 1), (23, .aload_n 0, 1), (24, .aload_n 1, 1), (25, .lload_n 3, 1), (26, .invokestatic 263, 3), (29, .lload_n 3, 1), (30, .lreturn, 1)]
set_option maxRecDepth 100000 in
theorem tX4_settlePair_0 : xdec cX4_settlePair lX4_settlePair_0 = true := by decide +kernel
def lX4_gainOf_0 : List (Nat × Instr × Nat) := [(0, .aload_n 0, 1), (1, .aload_n 1, 1), (2, .if_acmp .eq 10, 3), (5, .aload_n 0, 1), (6, .getfield 73, 3), (9, .ifCond .ne 5, 3), (12, .iconst 0, 1), (13, .ireturn, 1), (14, .aload_n 1, 1), (15, .getfield 60, 3), (18, .iconst 0, 1), (19, .iaload, 1), (20, .aload_n 0, 1), (21, .getfield 73, 3), (24, .isub, 1), (25, .ireturn, 1)]
set_option maxRecDepth 100000 in
theorem tX4_gainOf_0 : xdec cX4_gainOf lX4_gainOf_0 = true := by decide +kernel
def lX4_begunParts_0 : List (Nat × Instr × Nat) := [(0, .iload_n 1, 1), (1, .ifCond .le 17, 3), (4, .iload_n 0, 1), (5, .ifCond .le 13, 3), (8, .iload_n 0, 1), (9, .iconst 1, 1), (10, .isub, 1), (11, .iload_n 1, 1), (12, .idiv, 1), (13, .iconst 1, 1), (14, .iadd, 1), (15, .goto 4, 3), (18, .iconst 0, 1), (19, .ireturn, 1)]
set_option maxRecDepth 100000 in
theorem tX4_begunParts_0 : xdec cX4_begunParts lX4_begunParts_0 = true := by decide +kernel
def lX5_init_0 : List (Nat × Instr × Nat) := [(0, .aload_n 0, 1), (1, .invokespecial 1, 3), (4, .aload_n 0, 1), (5, .bipush 24, 2), (7, .newarray .int, 2), (9, .putfield 7, 3), (12, .aload_n 0, 1), (13, .bipush 24, 2), (15, .newarray .int, 2), (17, .putfield 13, 3), (20, .aload_n 0, 1), (21, .bipush 24, 2), (23, .newarray .int, 2), (25, .putfield 16, 3), (28, .aload_n 0, 1), (29, .bipush 8, 2), (31, .newarray .int, 2), (33, .putfield 19, 3), (36, .aload_n 0, 1), (37, .bipush 8, 2), (39, .newarray .int, 2), (41, .putfield 22, 3), (44, .aload_n 0, 1), (45, .bipush 8, 2), (47, .newarray .boolean, 2), (49, .putfield 25, 3), (52, .aload_n 0, 1), (53, .bipush 8, 2), (55, .newarray .long, 2), (57, .putfield 29, 3), (60, .aload_n 0, 1), (61, .bipush 8, 2), (63, .newarray .long, 2), (65, .putfield 33, 3), (68, .aload_n 0, 1), (69, .bipush 64, 2), (71, .newarray .long, 2), (73, .putfield 36, 3), (76, .aload_n 0, 1), (77, .bipush 20, 2)]
set_option maxRecDepth 100000 in
theorem tX5_init_0 : xdec cX5_init lX5_init_0 = true := by decide +kernel
def lX5_init_1 : List (Nat × Instr × Nat) := [(79, .newarray .int, 2), (81, .putfield 39, 3), (84, .aload_n 0, 1), (85, .bipush 20, 2), (87, .newarray .int, 2), (89, .putfield 42, 3), (92, .aload_n 0, 1), (93, .bipush 20, 2), (95, .newarray .int, 2), (97, .putfield 45, 3), (100, .aload_n 0, 1), (101, .bipush 20, 2), (103, .newarray .boolean, 2), (105, .putfield 48, 3), (108, .aload_n 0, 1), (109, .bipush 8, 2), (111, .newarray .int, 2), (113, .putfield 51, 3), (116, .aload_n 0, 1), (117, .bipush 40, 2), (119, .newarray .int, 2), (121, .putfield 54, 3), (124, .aload_n 0, 1), (125, .bipush 40, 2), (127, .newarray .int, 2), (129, .putfield 57, 3), (132, .aload_n 0, 1), (133, .bipush 40, 2), (135, .newarray .int, 2), (137, .putfield 60, 3), (140, .aload_n 0, 1), (141, .bipush 40, 2), (143, .newarray .int, 2), (145, .putfield 63, 3), (148, .aload_n 0, 1), (149, .bipush 40, 2), (151, .newarray .boolean, 2), (153, .putfield 66, 3), (156, .aload_n 0, 1), (157, .bipush 40, 2)]
set_option maxRecDepth 100000 in
theorem tX5_init_1 : xdec cX5_init lX5_init_1 = true := by decide +kernel
def lX5_init_2 : List (Nat × Instr × Nat) := [(159, .newarray .int, 2), (161, .putfield 69, 3), (164, .aload_n 0, 1), (165, .bipush 40, 2), (167, .newarray .int, 2), (169, .putfield 72, 3), (172, .aload_n 0, 1), (173, .bipush 40, 2), (175, .newarray .int, 2), (177, .putfield 75, 3), (180, .aload_n 0, 1), (181, .bipush 40, 2), (183, .newarray .int, 2), (185, .putfield 78, 3), (188, .aload_n 0, 1), (189, .bipush 40, 2), (191, .newarray .int, 2), (193, .putfield 81, 3), (196, .aload_n 0, 1), (197, .bipush 40, 2), (199, .newarray .boolean, 2), (201, .putfield 84, 3), (204, .aload_n 0, 1), (205, .bipush 40, 2), (207, .newarray .boolean, 2), (209, .putfield 87, 3), (212, .aload_n 0, 1), (213, .bipush 40, 2), (215, .newarray .boolean, 2), (217, .putfield 90, 3), (220, .aload_n 0, 1), (221, .ldc 93, 2), (223, .newarray .int, 2), (225, .putfield 94, 3), (228, .aload_n 0, 1), (229, .ldc 93, 2), (231, .newarray .int, 2), (233, .putfield 97, 3), (236, .aload_n 0, 1), (237, .bipush 40, 2)]
set_option maxRecDepth 100000 in
theorem tX5_init_2 : xdec cX5_init lX5_init_2 = true := by decide +kernel
def lX5_init_3 : List (Nat × Instr × Nat) := [(239, .newarray .int, 2), (241, .putfield 100, 3), (244, .aload_n 0, 1), (245, .bipush 40, 2), (247, .newarray .int, 2), (249, .putfield 103, 3), (252, .aload_n 0, 1), (253, .bipush 40, 2), (255, .newarray .int, 2), (257, .putfield 106, 3), (260, .aload_n 0, 1), (261, .iconst 3, 1), (262, .newarray .int, 2), (264, .putfield 109, 3), (267, .return_, 1)]
set_option maxRecDepth 100000 in
theorem tX5_init_3 : xdec cX5_init lX5_init_3 = true := by decide +kernel
def lX5_thrown_0 : List (Nat × Instr × Nat) := [(0, .aload_n 0, 1), (1, .getfield 112, 3), (4, .ireturn, 1)]
set_option maxRecDepth 100000 in
theorem tX5_thrown_0 : xdec cX5_thrown lX5_thrown_0 = true := by decide +kernel
def lX5_fails_0 : List (Nat × Instr × Nat) := [(0, .aload_n 0, 1), (1, .iload_n 1, 1), (2, .putfield 112, 3), (5, .iconst 0, 1), (6, .ireturn, 1)]
set_option maxRecDepth 100000 in
theorem tX5_fails_0 : xdec cX5_fails lX5_fails_0 = true := by decide +kernel
def lX5_asks_0 : List (Nat × Instr × Nat) := [(0, .aload_n 0, 1), (1, .iload_n 1, 1), (2, .ifCond .eq 7, 3), (5, .iconst 0, 1), (6, .goto 4, 3), (9, .iconst 1, 1), (10, .putfield 112, 3), (13, .iload_n 1, 1), (14, .ireturn, 1)]
set_option maxRecDepth 100000 in
theorem tX5_asks_0 : xdec cX5_asks lX5_asks_0 = true := by decide +kernel
def lX5_in_0 : List (Nat × Instr × Nat) := [(0, .iload_n 0, 1), (1, .iload_n 1, 1), (2, .if_icmp .lt 12, 3), (5, .iload_n 0, 1), (6, .iload_n 2, 1), (7, .if_icmp .gt 7, 3), (10, .iconst 1, 1), (11, .goto 4, 3), (14, .iconst 0, 1), (15, .ireturn, 1)]
set_option maxRecDepth 100000 in
theorem tX5_in_0 : xdec cX5_in lX5_in_0 = true := by decide +kernel
def lX5_isPost_0 : List (Nat × Instr × Nat) := [(0, .iload_n 1, 1), (1, .iconst 0, 1), (2, .aload_n 0, 1), (3, .getfield 116, 3), (6, .iconst 1, 1), (7, .isub, 1), (8, .invokestatic 119, 3), (11, .ireturn, 1)]
set_option maxRecDepth 100000 in
theorem tX5_isPost_0 : xdec cX5_isPost lX5_isPost_0 = true := by decide +kernel
def lX5_isKind_0 : List (Nat × Instr × Nat) := [(0, .iload_n 0, 1), (1, .iconst 0, 1), (2, .iconst 2, 1), (3, .invokestatic 119, 3), (6, .ireturn, 1)]
set_option maxRecDepth 100000 in
theorem tX5_isKind_0 : xdec cX5_isKind lX5_isKind_0 = true := by decide +kernel
def lX5_areGrams_0 : List (Nat × Instr × Nat) := [(0, .iload_n 1, 1), (1, .iconst 1, 1), (2, .iload_n 0, 1), (3, .iconst 1, 1), (4, .if_icmp .ne 8, 3), (7, .bipush 20, 2), (9, .goto 6, 3), (12, .sipush 2000, 3), (15, .invokestatic 119, 3), (18, .ireturn, 1)]
set_option maxRecDepth 100000 in
theorem tX5_areGrams_0 : xdec cX5_areGrams lX5_areGrams_0 = true := by decide +kernel
def lX5_post_0 : List (Nat × Instr × Nat) := [(0, .aload_n 0, 1), (1, .aload_n 0, 1), (2, .getfield 116, 3), (5, .bipush 8, 2), (7, .if_icmp .ge 7, 3), (10, .iconst 1, 1), (11, .goto 4, 3), (14, .iconst 0, 1), (15, .invokevirtual 123, 3), (18, .ifCond .ne 5, 3), (21, .iconst 0, 1), (22, .ireturn, 1), (23, .aload_n 0, 1), (24, .dup, 1), (25, .getfield 116, 3), (28, .iconst 1, 1), (29, .iadd, 1), (30, .putfield 116, 3), (33, .aload_n 0, 1), (34, .getfield 116, 3), (37, .iconst 1, 1), (38, .isub, 1), (39, .ireturn, 1)]
set_option maxRecDepth 100000 in
theorem tX5_post_0 : xdec cX5_post lX5_post_0 = true := by decide +kernel
def lX5_rates_0 : List (Nat × Instr × Nat) := [(0, .aload_n 0, 1), (1, .aload_n 0, 1), (2, .iload_n 1, 1), (3, .invokevirtual 127, 3), (6, .invokevirtual 123, 3), (9, .ifCond .ne 4, 3), (12, .return_, 1), (13, .iload_n 2, 1), (14, .invokestatic 131, 3), (17, .ifCond .eq 26, 3), (20, .iload_n 3, 1), (21, .iconst 0, 1), (22, .sipush 10000, 3), (25, .invokestatic 119, 3), (28, .ifCond .eq 15, 3), (31, .iload 4, 2), (33, .iconst 0, 1), (34, .sipush 10000, 3), (37, .invokestatic 119, 3), (40, .ifCond .ne 9, 3), (43, .aload_n 0, 1), (44, .iconst 2, 1), (45, .putfield 112, 3), (48, .return_, 1), (49, .aload_n 0, 1), (50, .getfield 7, 3), (53, .iconst 3, 1), (54, .iload_n 1, 1), (55, .imul, 1), (56, .iload_n 2, 1), (57, .iadd, 1), (58, .iload_n 3, 1), (59, .iastore, 1), (60, .aload_n 0, 1), (61, .getfield 13, 3), (64, .iconst 3, 1), (65, .iload_n 1, 1), (66, .imul, 1), (67, .iload_n 2, 1), (68, .iadd, 1)]
set_option maxRecDepth 100000 in
theorem tX5_rates_0 : xdec cX5_rates lX5_rates_0 = true := by decide +kernel
def lX5_rates_1 : List (Nat × Instr × Nat) := [(69, .iload 4, 2), (71, .iastore, 1), (72, .return_, 1)]
set_option maxRecDepth 100000 in
theorem tX5_rates_1 : xdec cX5_rates lX5_rates_1 = true := by decide +kernel
def lX5_due_0 : List (Nat × Instr × Nat) := [(0, .aload_n 0, 1), (1, .aload_n 0, 1), (2, .iload_n 1, 1), (3, .invokevirtual 127, 3), (6, .invokevirtual 123, 3), (9, .ifCond .ne 5, 3), (12, .iconst 0, 1), (13, .ireturn, 1), (14, .iload_n 2, 1), (15, .invokestatic 131, 3), (18, .ifCond .eq 14, 3), (21, .iload_n 3, 1), (22, .iconst 0, 1), (23, .sipush 10000, 3), (26, .invokestatic 119, 3), (29, .ifCond .ne 9, 3), (32, .aload_n 0, 1), (33, .iconst 2, 1), (34, .invokevirtual 134, 3), (37, .ireturn, 1), (38, .aload_n 0, 1), (39, .getfield 16, 3), (42, .iconst 3, 1), (43, .iload_n 1, 1), (44, .imul, 1), (45, .iload_n 2, 1), (46, .iadd, 1), (47, .iaload, 1), (48, .istore 4, 2), (50, .aload_n 0, 1), (51, .getfield 16, 3), (54, .iconst 3, 1), (55, .iload_n 1, 1), (56, .imul, 1), (57, .iload_n 2, 1), (58, .iadd, 1), (59, .iload_n 3, 1), (60, .iastore, 1), (61, .iload 4, 2), (63, .ireturn, 1)]
set_option maxRecDepth 100000 in
theorem tX5_due_0 : xdec cX5_due lX5_due_0 = true := by decide +kernel
def lX5_charge_0 : List (Nat × Instr × Nat) := [(0, .aload_n 0, 1), (1, .aload_n 0, 1), (2, .iload_n 1, 1), (3, .invokevirtual 127, 3), (6, .invokevirtual 123, 3), (9, .ifCond .ne 5, 3), (12, .iconst 0, 1), (13, .ireturn, 1), (14, .iload_n 2, 1), (15, .iconst 0, 1), (16, .sipush 1000, 3), (19, .invokestatic 119, 3), (22, .ifCond .ne 9, 3), (25, .aload_n 0, 1), (26, .iconst 2, 1), (27, .invokevirtual 134, 3), (30, .ireturn, 1), (31, .aload_n 0, 1), (32, .getfield 19, 3), (35, .iload_n 1, 1), (36, .iaload, 1), (37, .istore_n 3, 1), (38, .aload_n 0, 1), (39, .getfield 19, 3), (42, .iload_n 1, 1), (43, .iload_n 2, 1), (44, .iastore, 1), (45, .iload_n 3, 1), (46, .ireturn, 1)]
set_option maxRecDepth 100000 in
theorem tX5_charge_0 : xdec cX5_charge lX5_charge_0 = true := by decide +kernel
def lX5_coupon_0 : List (Nat × Instr × Nat) := [(0, .aload_n 0, 1), (1, .aload_n 0, 1), (2, .iload_n 1, 1), (3, .invokevirtual 127, 3), (6, .invokevirtual 123, 3), (9, .ifCond .ne 5, 3), (12, .iconst 0, 1), (13, .ireturn, 1), (14, .iload_n 2, 1), (15, .iconst 0, 1), (16, .sipush 10000, 3), (19, .invokestatic 119, 3), (22, .ifCond .ne 9, 3), (25, .aload_n 0, 1), (26, .iconst 2, 1), (27, .invokevirtual 134, 3), (30, .ireturn, 1), (31, .aload_n 0, 1), (32, .getfield 22, 3), (35, .iload_n 1, 1), (36, .iaload, 1), (37, .istore_n 3, 1), (38, .aload_n 0, 1), (39, .getfield 22, 3), (42, .iload_n 1, 1), (43, .iload_n 2, 1), (44, .iastore, 1), (45, .iload_n 3, 1), (46, .ireturn, 1)]
set_option maxRecDepth 100000 in
theorem tX5_coupon_0 : xdec cX5_coupon lX5_coupon_0 = true := by decide +kernel
