def lL_law_30 : List (Nat × Instr × Nat) := [(1964, .iload 5, 2), (1966, .if_icmp .eq 5, 3), (1969, .iconst 0, 1), (1970, .ireturn, 1), (1971, .iload 5, 2), (1973, .ifCond .ne 15, 3), (1976, .aload_n 3, 1), (1977, .iconst 0, 1), (1978, .laload, 1), (1979, .iload 6, 2), (1981, .i2l, 1), (1982, .lcmp, 1), (1983, .ifCond .eq 5, 3), (1986, .iconst 0, 1), (1987, .ireturn, 1), (1988, .goto 3, 3), (1991, .iinc 4 7, 3), (1994, .goto (-1971), 3), (1997, .iconst 1, 1), (1998, .ireturn, 1)]
set_option maxRecDepth 100000 in
theorem tL_law_30 : xdec cL_law lL_law_30 = true := by decide +kernel
