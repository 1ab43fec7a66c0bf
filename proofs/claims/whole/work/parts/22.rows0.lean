/-! RU(Nat.le_of_ble_eq_true rfl)ING ROWS of the methods -/
-- X0_init
theorem zh_X0_init_0 : zfe zqX0_init.i 0 = some (0, .aload_n 0, 1, 0, 0, 0) := rfl
theorem zh_X0_init_1 : zfe zqX0_init.i 1 = some (1, .invokespecial 3, 3, 0, 0, 0) := rfl
theorem zh_X0_init_4 : zfe zqX0_init.i 4 = some (4, .aload_n 0, 1, 0, 0, 0) := rfl
theorem zh_X0_init_5 : zfe zqX0_init.i 5 = some (5, .sipush 420, 3, 0, 0, 0) := rfl
theorem zh_X0_init_8 : zfe zqX0_init.i 8 = some (8, .newarray .int, 2, 0, 0, 0) := rfl
theorem zh_X0_init_10 : zfe zqX0_init.i 10 = some (10, .putfield 11, 3, 0, 0, 1) := rfl
theorem zh_X0_init_13 : zfe zqX0_init.i 13 = some (13, .aload_n 0, 1, 0, 0, 0) := rfl
theorem zh_X0_init_14 : zfe zqX0_init.i 14 = some (14, .sipush 420, 3, 0, 0, 0) := rfl
theorem zh_X0_init_17 : zfe zqX0_init.i 17 = some (17, .newarray .int, 2, 0, 0, 0) := rfl
theorem zh_X0_init_19 : zfe zqX0_init.i 19 = some (19, .putfield 15, 3, 0, 1, 1) := rfl
theorem zh_X0_init_22 : zfe zqX0_init.i 22 = some (22, .aload_n 0, 1, 0, 0, 0) := rfl
theorem zh_X0_init_23 : zfe zqX0_init.i 23 = some (23, .sipush 420, 3, 0, 0, 0) := rfl
theorem zh_X0_init_26 : zfe zqX0_init.i 26 = some (26, .newarray .int, 2, 0, 0, 0) := rfl
theorem zh_X0_init_28 : zfe zqX0_init.i 28 = some (28, .putfield 18, 3, 0, 2, 1) := rfl
theorem zh_X0_init_31 : zfe zqX0_init.i 31 = some (31, .return_, 1, 0, 0, 0) := rfl
theorem ze_X0_init_0 {d : Nat} {f : zF} {nx kk n : Nat} {x0 : Nat} : zex zTb d zqX0_init 0 [.ref x0] [] f (some nx, kk, n) = zex zTb d zqX0_init 10 [.ref x0] [.ref nx, .ref x0] (zup f nx (.inl (0, (420, .inl (fun _ => 0))))) (some (nx + 1), kk + 1, n + 420) := (zxl_go (x := (1, [.ref x0], [.ref x0], f, (some nx, kk, n))) zh_X0_init_0 rfl).trans ((zx_objinit zh_X0_init_1 (Nat.le_of_ble_eq_true rfl)).trans ((zxl_go (x := (5, [.ref x0], [.ref x0], f, (some nx, kk, n))) zh_X0_init_4 rfl).trans ((zx_sipush zh_X0_init_5 (by decide)).trans ((zx_newarr (N := 420) zh_X0_init_8 rfl (by decide) (by decide))))))
theorem ze_X0_init_10 {d : Nat} {f : zF} {m : zM} {a0 : Value} {y0 y1 : Nat} : zex zTb d zqX0_init 10 [a0] [.ref y1, .ref y0] f m = if (zco (f y0) 0 0 && zok (zfty 0 0) (.ref y1)) = true then zex zTb d zqX0_init 13 [a0] [] (zup f y0 (zcs (f y0) 0 (.ref y1))) m else none := (zx_putfield zh_X0_init_10)
theorem ze_X0_init_13 {d : Nat} {f : zF} {nx kk n : Nat} {x0 : Nat} : zex zTb d zqX0_init 13 [.ref x0] [] f (some nx, kk, n) = zex zTb d zqX0_init 19 [.ref x0] [.ref nx, .ref x0] (zup f nx (.inl (0, (420, .inl (fun _ => 0))))) (some (nx + 1), kk + 1, n + 420) := (zxl_go (x := (14, [.ref x0], [.ref x0], f, (some nx, kk, n))) zh_X0_init_13 rfl).trans ((zx_sipush zh_X0_init_14 (by decide)).trans ((zx_newarr (N := 420) zh_X0_init_17 rfl (by decide) (by decide))))
theorem ze_X0_init_19 {d : Nat} {f : zF} {m : zM} {a0 : Value} {y0 y1 : Nat} : zex zTb d zqX0_init 19 [a0] [.ref y1, .ref y0] f m = if (zco (f y0) 0 1 && zok (zfty 0 1) (.ref y1)) = true then zex zTb d zqX0_init 22 [a0] [] (zup f y0 (zcs (f y0) 1 (.ref y1))) m else none := (zx_putfield zh_X0_init_19)
theorem ze_X0_init_22 {d : Nat} {f : zF} {nx kk n : Nat} {x0 : Nat} : zex zTb d zqX0_init 22 [.ref x0] [] f (some nx, kk, n) = zex zTb d zqX0_init 28 [.ref x0] [.ref nx, .ref x0] (zup f nx (.inl (0, (420, .inl (fun _ => 0))))) (some (nx + 1), kk + 1, n + 420) := (zxl_go (x := (23, [.ref x0], [.ref x0], f, (some nx, kk, n))) zh_X0_init_22 rfl).trans ((zx_sipush zh_X0_init_23 (by decide)).trans ((zx_newarr (N := 420) zh_X0_init_26 rfl (by decide) (by decide))))
theorem ze_X0_init_28 {d : Nat} {f : zF} {m : zM} {a0 : Value} {y0 y1 : Nat} : zex zTb d zqX0_init 28 [a0] [.ref y1, .ref y0] f m = if (zco (f y0) 0 2 && zok (zfty 0 2) (.ref y1)) = true then zex zTb d zqX0_init 31 [a0] [] (zup f y0 (zcs (f y0) 2 (.ref y1))) m else none := (zx_putfield zh_X0_init_28)
theorem ze_X0_init_31 {d : Nat} {f : zF} {m : zM} {a0 : Value} : zex zTb d zqX0_init 31 [a0] [] f m = some (.inl none, f, m) := (zx_ret zh_X0_init_31 rfl)
-- X0_read
theorem zh_X0_read_0 : zfe zqX0_read.i 0 = some (0, .aload_n 0, 1, 0, 0, 0) := rfl
theorem zh_X0_read_1 : zfe zqX0_read.i 1 = some (1, .iconst 0, 1, 0, 0, 0) := rfl
theorem zh_X0_read_2 : zfe zqX0_read.i 2 = some (2, .putfield 21, 3, 0, 3, 0) := rfl
theorem zh_X0_read_5 : zfe zqX0_read.i 5 = some (5, .iconst 0, 1, 0, 0, 0) := rfl
theorem zh_X0_read_6 : zfe zqX0_read.i 6 = some (6, .istore_n 2, 1, 0, 0, 0) := rfl
theorem zh_X0_read_7 : zfe zqX0_read.i 7 = some (7, .iload_n 2, 1, 0, 0, 0) := rfl
theorem zh_X0_read_8 : zfe zqX0_read.i 8 = some (8, .aload_n 1, 1, 0, 0, 0) := rfl
theorem zh_X0_read_9 : zfe zqX0_read.i 9 = some (9, .getfield 25, 3, 3, 1, 0) := rfl
theorem zh_X0_read_12 : zfe zqX0_read.i 12 = some (12, .if_icmp .ge 67, 3, 0, 0, 0) := rfl
theorem zh_X0_read_15 : zfe zqX0_read.i 15 = some (15, .aload_n 1, 1, 0, 0, 0) := rfl
theorem zh_X0_read_16 : zfe zqX0_read.i 16 = some (16, .getfield 28, 3, 3, 0, 0) := rfl
theorem zh_X0_read_19 : zfe zqX0_read.i 19 = some (19, .iload_n 2, 1, 0, 0, 0) := rfl
theorem zh_X0_read_20 : zfe zqX0_read.i 20 = some (20, .laload, 1, 0, 0, 0) := rfl
theorem zh_X0_read_21 : zfe zqX0_read.i 21 = some (21, .lstore_n 3, 1, 0, 0, 0) := rfl
theorem zh_X0_read_22 : zfe zqX0_read.i 22 = some (22, .lload_n 3, 1, 0, 0, 0) := rfl
theorem zh_X0_read_23 : zfe zqX0_read.i 23 = some (23, .invokestatic 32, 3, 73, 1, 0) := rfl
theorem zh_X0_read_26 : zfe zqX0_read.i 26 = some (26, .istore 5, 2, 0, 0, 0) := rfl
theorem zh_X0_read_28 : zfe zqX0_read.i 28 = some (28, .iload 5, 2, 0, 0, 0) := rfl
theorem zh_X0_read_30 : zfe zqX0_read.i 30 = some (30, .ifCond .lt 43, 3, 0, 0, 0) := rfl
theorem zh_X0_read_33 : zfe zqX0_read.i 33 = some (33, .aload_n 1, 1, 0, 0, 0) := rfl
theorem zh_X0_read_34 : zfe zqX0_read.i 34 = some (34, .lload_n 3, 1, 0, 0, 0) := rfl
theorem zh_X0_read_35 : zfe zqX0_read.i 35 = some (35, .bipush 8, 2, 0, 0, 0) := rfl
theorem zh_X0_read_37 : zfe zqX0_read.i 37 = some (37, .iload 5, 2, 0, 0, 0) := rfl
theorem zh_X0_read_39 : zfe zqX0_read.i 39 = some (39, .imul, 1, 0, 0, 0) := rfl
theorem zh_X0_read_40 : zfe zqX0_read.i 40 = some (40, .lushr, 1, 0, 0, 0) := rfl
theorem zh_X0_read_41 : zfe zqX0_read.i 41 = some (41, .invokevirtual 38, 3, 31, 2, 3) := rfl
theorem zh_X0_read_44 : zfe zqX0_read.i 44 = some (44, .istore 6, 2, 0, 0, 0) := rfl
theorem zh_X0_read_46 : zfe zqX0_read.i 46 = some (46, .aload_n 1, 1, 0, 0, 0) := rfl
theorem zh_X0_read_47 : zfe zqX0_read.i 47 = some (47, .lload_n 3, 1, 0, 0, 0) := rfl
theorem zh_X0_read_48 : zfe zqX0_read.i 48 = some (48, .iload 5, 2, 0, 0, 0) := rfl
theorem zh_X0_read_50 : zfe zqX0_read.i 50 = some (50, .invokestatic 41, 3, 74, 2, 0) := rfl
theorem zh_X0_read_53 : zfe zqX0_read.i 53 = some (53, .invokevirtual 38, 3, 31, 2, 3) := rfl
theorem zh_X0_read_56 : zfe zqX0_read.i 56 = some (56, .istore 7, 2, 0, 0, 0) := rfl
theorem zh_X0_read_58 : zfe zqX0_read.i 58 = some (58, .aload_n 0, 1, 0, 0, 0) := rfl
theorem zh_X0_read_59 : zfe zqX0_read.i 59 = some (59, .iload 6, 2, 0, 0, 0) := rfl
theorem zh_X0_read_61 : zfe zqX0_read.i 61 = some (61, .iload 7, 2, 0, 0, 0) := rfl
theorem zh_X0_read_63 : zfe zqX0_read.i 63 = some (63, .iload_n 2, 1, 0, 0, 0) := rfl
theorem zh_X0_read_64 : zfe zqX0_read.i 64 = some (64, .invokevirtual 45, 3, 2, 4, 0) := rfl
theorem zh_X0_read_67 : zfe zqX0_read.i 67 = some (67, .iinc 5 (-1), 3, 0, 0, 0) := rfl
theorem zh_X0_read_70 : zfe zqX0_read.i 70 = some (70, .goto (-42), 3, 0, 0, 0) := rfl
theorem zh_X0_read_73 : zfe zqX0_read.i 73 = some (73, .iinc 2 1, 3, 0, 0, 0) := rfl
theorem zh_X0_read_76 : zfe zqX0_read.i 76 = some (76, .goto (-69), 3, 0, 0, 0) := rfl
theorem zh_X0_read_79 : zfe zqX0_read.i 79 = some (79, .return_, 1, 0, 0, 0) := rfl
theorem ze_X0_read_0 {d : Nat} {f : zF} {m : zM} {x0 : Nat} {a1 a2 a3 a4 a5 a6 a7 : Value} : zex zTb d zqX0_read 0 [.ref x0, a1, a2, a3, a4, a5, a6, a7] [] f m = if (zco (f x0) 0 3 && zok (zfty 0 3) (.int (I 0))) = true then zex zTb d zqX0_read 5 [.ref x0, a1, a2, a3, a4, a5, a6, a7] [] (zup f x0 (zcs (f x0) 3 (.int (I 0)))) m else none := (zxl_go (x := (1, [.ref x0, a1, a2, a3, a4, a5, a6, a7], [.ref x0], f, m)) zh_X0_read_0 rfl).trans ((zx_iconst zh_X0_read_1).trans ((zx_putfield zh_X0_read_2)))
theorem ze_X0_read_5 {d : Nat} {f : zF} {m : zM} {a0 a1 a2 a3 a4 a5 a6 a7 : Value} : zex zTb d zqX0_read 5 [a0, a1, a2, a3, a4, a5, a6, a7] [] f m = zex zTb d zqX0_read 7 [a0, (zclr a1), .int (I 0), a3, a4, a5, a6, a7] [] f m := (zx_iconst zh_X0_read_5).trans ((zxl_go (x := (7, [a0, (zclr a1), .int (I 0), a3, a4, a5, a6, a7], [], f, m)) zh_X0_read_6 rfl))
theorem ze_X0_read_7 {d : Nat} {f : zF} {m : zM} {a0 a3 a4 a5 a6 a7 : Value} {x1 : Nat} {x2 : Int32} : zex zTb d zqX0_read 7 [a0, .ref x1, .int x2, a3, a4, a5, a6, a7] [] f m = if zco (f x1) 3 1 = true then zex zTb d zqX0_read 12 [a0, .ref x1, .int x2, a3, a4, a5, a6, a7] [zcf (f x1) 1, .int x2] f m else none := (zxl_go (x := (8, [a0, .ref x1, .int x2, a3, a4, a5, a6, a7], [.int x2], f, m)) zh_X0_read_7 rfl).trans ((zxl_go (x := (9, [a0, .ref x1, .int x2, a3, a4, a5, a6, a7], [.ref x1, .int x2], f, m)) zh_X0_read_8 rfl).trans ((zx_getfield zh_X0_read_9)))
theorem ze_X0_read_12 {d : Nat} {f : zF} {m : zM} {a0 a1 a2 a3 a4 a5 a6 a7 : Value} {y0 y1 : Int32} : zex zTb d zqX0_read 12 [a0, a1, a2, a3, a4, a5, a6, a7] [.int y1, .int y0] f m = if zc2 .ge y0 y1 = true then zex zTb d zqX0_read 79 [a0, a1, a2, a3, a4, a5, a6, a7] [] f m else zex zTb d zqX0_read 15 [a0, a1, a2, a3, a4, a5, a6, a7] [] f m := (zx_icmp (tgt := 79) zh_X0_read_12 rfl)
theorem ze_X0_read_15 {d : Nat} {f : zF} {m : zM} {a0 a2 a3 a4 a5 a6 a7 : Value} {x1 : Nat} : zex zTb d zqX0_read 15 [a0, .ref x1, a2, a3, a4, a5, a6, a7] [] f m = if zco (f x1) 3 0 = true then zex zTb d zqX0_read 19 [a0, .ref x1, a2, a3, a4, a5, a6, a7] [zcf (f x1) 0] f m else none := (zxl_go (x := (16, [a0, .ref x1, a2, a3, a4, a5, a6, a7], [.ref x1], f, m)) zh_X0_read_15 rfl).trans ((zx_getfield zh_X0_read_16))
theorem ze_X0_read_19 {d : Nat} {f : zF} {m : zM} {a0 a1 a3 a4 a5 a6 a7 : Value} {x2 : Int32} {y0 : Nat} : zex zTb d zqX0_read 19 [a0, a1, .int x2, a3, a4, a5, a6, a7] [.ref y0] f m = if zrl (f y0) x2 = true then zex zTb d zqX0_read 21 [a0, a1, .int x2, a3, a4, a5, a6, a7] [.long (zgl (f y0) x2.toNatClampNeg)] f m else none := (zxl_go (x := (20, [a0, a1, .int x2, a3, a4, a5, a6, a7], [.int x2, .ref y0], f, m)) zh_X0_read_19 rfl).trans ((zx_laload zh_X0_read_20))
theorem ze_X0_read_21 {d : Nat} {f : zF} {m : zM} {a0 a1 a2 a3 a4 a5 a6 a7 : Value} {y0 : Int64} : zex zTb d zqX0_read 21 [a0, a1, a2, a3, a4, a5, a6, a7] [.long y0] f m = zcal zTb (zrun zTb d 73 [.long y0] f m) d zqX0_read 23 26 [a0, a1, (zclr a2), .long y0, .null, a5, a6, a7] [] := (zxl_go (x := (22, [a0, a1, (zclr a2), .long y0, .null, a5, a6, a7], [], f, m)) zh_X0_read_21 rfl).trans ((zxl_go (x := (23, [a0, a1, (zclr a2), .long y0, .null, a5, a6, a7], [.long y0], f, m)) zh_X0_read_22 rfl).trans (((zx_static zh_X0_read_23 (Nat.le_of_ble_eq_true rfl) rfl rfl).trans (if_pos (Nat.le_of_ble_eq_true rfl)))))
theorem ze_X0_read_26 {d : Nat} {f : zF} {m : zM} {a0 a1 a2 a3 a4 a5 a6 a7 : Value} {y0 : Int32} : zex zTb d zqX0_read 26 [a0, a1, a2, a3, a4, a5, a6, a7] [.int y0] f m = zex zTb d zqX0_read 28 [a0, a1, a2, a3, (zclr a4), .int y0, a6, a7] [] f m := (zxl_go (x := (28, [a0, a1, a2, a3, (zclr a4), .int y0, a6, a7], [], f, m)) zh_X0_read_26 rfl)
theorem ze_X0_read_28 {d : Nat} {f : zF} {m : zM} {a0 a1 a2 a3 a4 a6 a7 : Value} {x5 : Int32} : zex zTb d zqX0_read 28 [a0, a1, a2, a3, a4, .int x5, a6, a7] [] f m = if zc1 .lt x5 = true then zex zTb d zqX0_read 73 [a0, a1, a2, a3, a4, .int x5, a6, a7] [] f m else zex zTb d zqX0_read 33 [a0, a1, a2, a3, a4, .int x5, a6, a7] [] f m := (zxl_go (x := (30, [a0, a1, a2, a3, a4, .int x5, a6, a7], [.int x5], f, m)) zh_X0_read_28 rfl).trans ((zx_if (tgt := 73) zh_X0_read_30 rfl))
theorem ze_X0_read_33 {d : Nat} {f : zF} {m : zM} {a0 a2 a4 a6 a7 : Value} {x1 : Nat} {x3 : Int64} {x5 : Int32} : zex zTb d zqX0_read 33 [a0, .ref x1, a2, .long x3, a4, .int x5, a6, a7] [] f m = if zisc (f x1) 3 = true then zcal zTb (zrun zTb d 31 [.ref x1, .long ((x3.toUInt64 >>> (((I 8) * x5).toInt64.toUInt64 &&& Int64.toUInt64 63)).toInt64)] f m) d zqX0_read 41 44 [a0, .ref x1, a2, .long x3, a4, .int x5, a6, a7] [] else none := (zxl_go (x := (34, [a0, .ref x1, a2, .long x3, a4, .int x5, a6, a7], [.ref x1], f, m)) zh_X0_read_33 rfl).trans ((zxl_go (x := (35, [a0, .ref x1, a2, .long x3, a4, .int x5, a6, a7], [.long x3, .ref x1], f, m)) zh_X0_read_34 rfl).trans ((zx_bipush zh_X0_read_35 (by decide)).trans ((zxl_go (x := (39, [a0, .ref x1, a2, .long x3, a4, .int x5, a6, a7], [.int x5, .int (I 8), .long x3, .ref x1], f, m)) zh_X0_read_37 rfl).trans ((zxl_go (x := (40, [a0, .ref x1, a2, .long x3, a4, .int x5, a6, a7], [.int ((I 8) * x5), .long x3, .ref x1], f, m)) zh_X0_read_39 rfl).trans ((zxl_go (x := (41, [a0, .ref x1, a2, .long x3, a4, .int x5, a6, a7], [.long ((x3.toUInt64 >>> (((I 8) * x5).toInt64.toUInt64 &&& Int64.toUInt64 63)).toInt64), .ref x1], f, m)) zh_X0_read_40 rfl).trans ((zx_virtual4 zh_X0_read_41 (Nat.le_of_ble_eq_true rfl) rfl rfl (Nat.le_of_ble_eq_true rfl))))))))
theorem ze_X0_read_44 {d : Nat} {f : zF} {m : zM} {a0 a2 a4 a6 a7 : Value} {x1 : Nat} {x3 : Int64} {x5 y0 : Int32} : zex zTb d zqX0_read 44 [a0, .ref x1, a2, .long x3, a4, .int x5, a6, a7] [.int y0] f m = zcal zTb (zrun zTb d 74 [.long x3, .int x5] f m) d zqX0_read 50 53 [a0, .ref x1, a2, .long x3, a4, .int x5, .int y0, a7] [.ref x1] := (zxl_go (x := (46, [a0, .ref x1, a2, .long x3, a4, .int x5, .int y0, a7], [], f, m)) zh_X0_read_44 rfl).trans ((zxl_go (x := (47, [a0, .ref x1, a2, .long x3, a4, .int x5, .int y0, a7], [.ref x1], f, m)) zh_X0_read_46 rfl).trans ((zxl_go (x := (48, [a0, .ref x1, a2, .long x3, a4, .int x5, .int y0, a7], [.long x3, .ref x1], f, m)) zh_X0_read_47 rfl).trans ((zxl_go (x := (50, [a0, .ref x1, a2, .long x3, a4, .int x5, .int y0, a7], [.int x5, .long x3, .ref x1], f, m)) zh_X0_read_48 rfl).trans (((zx_static zh_X0_read_50 (Nat.le_of_ble_eq_true rfl) rfl rfl).trans (if_pos (Nat.le_of_ble_eq_true rfl)))))))
theorem ze_X0_read_53 {d : Nat} {f : zF} {m : zM} {a0 a1 a2 a3 a4 a5 a6 a7 : Value} {y0 : Nat} {y1 : Int64} : zex zTb d zqX0_read 53 [a0, a1, a2, a3, a4, a5, a6, a7] [.long y1, .ref y0] f m = if zisc (f y0) 3 = true then zcal zTb (zrun zTb d 31 [.ref y0, .long y1] f m) d zqX0_read 53 56 [a0, a1, a2, a3, a4, a5, a6, a7] [] else none := (zx_virtual4 zh_X0_read_53 (Nat.le_of_ble_eq_true rfl) rfl rfl (Nat.le_of_ble_eq_true rfl))
theorem ze_X0_read_56 {d : Nat} {f : zF} {m : zM} {x0 : Nat} {a1 a3 a4 a5 a7 : Value} {x2 x6 y0 : Int32} : zex zTb d zqX0_read 56 [.ref x0, a1, .int x2, a3, a4, a5, .int x6, a7] [.int y0] f m = if zisc (f x0) 0 = true then zcal zTb (zrun zTb d 2 [.ref x0, .int x6, .int y0, .int x2] f m) d zqX0_read 64 67 [.ref x0, a1, .int x2, a3, a4, a5, .int x6, .int y0] [] else none := (zxl_go (x := (58, [.ref x0, a1, .int x2, a3, a4, a5, .int x6, .int y0], [], f, m)) zh_X0_read_56 rfl).trans ((zxl_go (x := (59, [.ref x0, a1, .int x2, a3, a4, a5, .int x6, .int y0], [.ref x0], f, m)) zh_X0_read_58 rfl).trans ((zxl_go (x := (61, [.ref x0, a1, .int x2, a3, a4, a5, .int x6, .int y0], [.int x6, .ref x0], f, m)) zh_X0_read_59 rfl).trans ((zxl_go (x := (63, [.ref x0, a1, .int x2, a3, a4, a5, .int x6, .int y0], [.int y0, .int x6, .ref x0], f, m)) zh_X0_read_61 rfl).trans ((zxl_go (x := (64, [.ref x0, a1, .int x2, a3, a4, a5, .int x6, .int y0], [.int x2, .int y0, .int x6, .ref x0], f, m)) zh_X0_read_63 rfl).trans ((zx_virtual4 zh_X0_read_64 (Nat.le_of_ble_eq_true rfl) rfl rfl (Nat.le_of_ble_eq_true rfl)))))))
theorem ze_X0_read_67 {d : Nat} {f : zF} {m : zM} {a0 a1 a2 a3 a4 a6 a7 : Value} {x5 : Int32} : zex zTb d zqX0_read 67 [a0, a1, a2, a3, a4, .int x5, a6, a7] [] f m = zex zTb d zqX0_read 28 [a0, a1, a2, a3, (zclr a4), .int (x5 + I (-1)), a6, a7] [] f m := (zxl_go (x := (70, [a0, a1, a2, a3, (zclr a4), .int (x5 + I (-1)), a6, a7], [], f, m)) zh_X0_read_67 rfl).trans ((zx_goto zh_X0_read_70 rfl))
theorem ze_X0_read_73 {d : Nat} {f : zF} {m : zM} {a0 a1 a3 a4 a5 a6 a7 : Value} {x2 : Int32} : zex zTb d zqX0_read 73 [a0, a1, .int x2, a3, a4, a5, a6, a7] [] f m = zex zTb d zqX0_read 7 [a0, (zclr a1), .int (x2 + I 1), a3, a4, a5, a6, a7] [] f m := (zxl_go (x := (76, [a0, (zclr a1), .int (x2 + I 1), a3, a4, a5, a6, a7], [], f, m)) zh_X0_read_73 rfl).trans ((zx_goto zh_X0_read_76 rfl))
theorem ze_X0_read_79 {d : Nat} {f : zF} {m : zM} {a0 a1 a2 a3 a4 a5 a6 a7 : Value} : zex zTb d zqX0_read 79 [a0, a1, a2, a3, a4, a5, a6, a7] [] f m = some (.inl none, f, m) := (zx_ret zh_X0_read_79 rfl)
-- X0_append
theorem zh_X0_append_0 : zfe zqX0_append.i 0 = some (0, .aload_n 0, 1, 0, 0, 0) := rfl
theorem zh_X0_append_1 : zfe zqX0_append.i 1 = some (1, .getfield 21, 3, 0, 3, 0) := rfl
theorem zh_X0_append_4 : zfe zqX0_append.i 4 = some (4, .ifCond .lt 63, 3, 0, 0, 0) := rfl
theorem zh_X0_append_7 : zfe zqX0_append.i 7 = some (7, .aload_n 0, 1, 0, 0, 0) := rfl
theorem zh_X0_append_8 : zfe zqX0_append.i 8 = some (8, .getfield 21, 3, 0, 3, 0) := rfl
theorem zh_X0_append_11 : zfe zqX0_append.i 11 = some (11, .aload_n 0, 1, 0, 0, 0) := rfl
theorem zh_X0_append_12 : zfe zqX0_append.i 12 = some (12, .getfield 11, 3, 0, 0, 0) := rfl
theorem zh_X0_append_15 : zfe zqX0_append.i 15 = some (15, .arraylength, 1, 0, 0, 0) := rfl
theorem zh_X0_append_16 : zfe zqX0_append.i 16 = some (16, .if_icmp .ge 51, 3, 0, 0, 0) := rfl
theorem zh_X0_append_19 : zfe zqX0_append.i 19 = some (19, .iload_n 1, 1, 0, 0, 0) := rfl
theorem zh_X0_append_20 : zfe zqX0_append.i 20 = some (20, .ifCond .lt 47, 3, 0, 0, 0) := rfl
theorem zh_X0_append_23 : zfe zqX0_append.i 23 = some (23, .iload_n 2, 1, 0, 0, 0) := rfl
theorem zh_X0_append_24 : zfe zqX0_append.i 24 = some (24, .ifCond .lt 43, 3, 0, 0, 0) := rfl
theorem zh_X0_append_27 : zfe zqX0_append.i 27 = some (27, .aload_n 0, 1, 0, 0, 0) := rfl
theorem zh_X0_append_28 : zfe zqX0_append.i 28 = some (28, .getfield 11, 3, 0, 0, 0) := rfl
theorem zh_X0_append_31 : zfe zqX0_append.i 31 = some (31, .aload_n 0, 1, 0, 0, 0) := rfl
theorem zh_X0_append_32 : zfe zqX0_append.i 32 = some (32, .getfield 21, 3, 0, 3, 0) := rfl
theorem zh_X0_append_35 : zfe zqX0_append.i 35 = some (35, .iload_n 1, 1, 0, 0, 0) := rfl
theorem zh_X0_append_36 : zfe zqX0_append.i 36 = some (36, .iastore, 1, 0, 0, 0) := rfl
theorem zh_X0_append_37 : zfe zqX0_append.i 37 = some (37, .aload_n 0, 1, 0, 0, 0) := rfl
theorem zh_X0_append_38 : zfe zqX0_append.i 38 = some (38, .getfield 15, 3, 0, 1, 0) := rfl
theorem zh_X0_append_41 : zfe zqX0_append.i 41 = some (41, .aload_n 0, 1, 0, 0, 0) := rfl
theorem zh_X0_append_42 : zfe zqX0_append.i 42 = some (42, .getfield 21, 3, 0, 3, 0) := rfl
theorem zh_X0_append_45 : zfe zqX0_append.i 45 = some (45, .iload_n 2, 1, 0, 0, 0) := rfl
theorem zh_X0_append_46 : zfe zqX0_append.i 46 = some (46, .iastore, 1, 0, 0, 0) := rfl
theorem zh_X0_append_47 : zfe zqX0_append.i 47 = some (47, .aload_n 0, 1, 0, 0, 0) := rfl
theorem zh_X0_append_48 : zfe zqX0_append.i 48 = some (48, .getfield 18, 3, 0, 2, 0) := rfl
theorem zh_X0_append_51 : zfe zqX0_append.i 51 = some (51, .aload_n 0, 1, 0, 0, 0) := rfl
theorem zh_X0_append_52 : zfe zqX0_append.i 52 = some (52, .getfield 21, 3, 0, 3, 0) := rfl
theorem zh_X0_append_55 : zfe zqX0_append.i 55 = some (55, .iload_n 3, 1, 0, 0, 0) := rfl
theorem zh_X0_append_56 : zfe zqX0_append.i 56 = some (56, .iastore, 1, 0, 0, 0) := rfl
theorem zh_X0_append_57 : zfe zqX0_append.i 57 = some (57, .aload_n 0, 1, 0, 0, 0) := rfl
theorem zh_X0_append_58 : zfe zqX0_append.i 58 = some (58, .dup, 1, 0, 0, 0) := rfl
theorem zh_X0_append_59 : zfe zqX0_append.i 59 = some (59, .getfield 21, 3, 0, 3, 0) := rfl
theorem zh_X0_append_62 : zfe zqX0_append.i 62 = some (62, .iconst 1, 1, 0, 0, 0) := rfl
theorem zh_X0_append_63 : zfe zqX0_append.i 63 = some (63, .iadd, 1, 0, 0, 0) := rfl
theorem zh_X0_append_64 : zfe zqX0_append.i 64 = some (64, .putfield 21, 3, 0, 3, 0) := rfl
theorem zh_X0_append_67 : zfe zqX0_append.i 67 = some (67, .return_, 1, 0, 0, 0) := rfl
theorem ze_X0_append_0 {d : Nat} {f : zF} {m : zM} {x0 : Nat} {a1 a2 a3 : Value} : zex zTb d zqX0_append 0 [.ref x0, a1, a2, a3] [] f m = if zco (f x0) 0 3 = true then zex zTb d zqX0_append 4 [.ref x0, a1, a2, a3] [zcf (f x0) 3] f m else none := (zxl_go (x := (1, [.ref x0, a1, a2, a3], [.ref x0], f, m)) zh_X0_append_0 rfl).trans ((zx_getfield zh_X0_append_1))
theorem ze_X0_append_4 {d : Nat} {f : zF} {m : zM} {a0 a1 a2 a3 : Value} {y0 : Int32} : zex zTb d zqX0_append 4 [a0, a1, a2, a3] [.int y0] f m = if zc1 .lt y0 = true then zex zTb d zqX0_append 67 [a0, a1, a2, a3] [] f m else zex zTb d zqX0_append 7 [a0, a1, a2, a3] [] f m := (zx_if (tgt := 67) zh_X0_append_4 rfl)
theorem ze_X0_append_7 {d : Nat} {f : zF} {m : zM} {x0 : Nat} {a1 a2 a3 : Value} : zex zTb d zqX0_append 7 [.ref x0, a1, a2, a3] [] f m = if zco (f x0) 0 3 = true then zex zTb d zqX0_append 11 [.ref x0, a1, a2, a3] [zcf (f x0) 3] f m else none := (zxl_go (x := (8, [.ref x0, a1, a2, a3], [.ref x0], f, m)) zh_X0_append_7 rfl).trans ((zx_getfield zh_X0_append_8))
theorem ze_X0_append_11 {d : Nat} {f : zF} {m : zM} {x0 : Nat} {a1 a2 a3 : Value} {y0 : Int32} : zex zTb d zqX0_append 11 [.ref x0, a1, a2, a3] [.int y0] f m = if zco (f x0) 0 0 = true then zex zTb d zqX0_append 15 [.ref x0, a1, a2, a3] [zcf (f x0) 0, .int y0] f m else none := (zxl_go (x := (12, [.ref x0, a1, a2, a3], [.ref x0, .int y0], f, m)) zh_X0_append_11 rfl).trans ((zx_getfield zh_X0_append_12))
theorem ze_X0_append_15 {d : Nat} {f : zF} {m : zM} {a0 a1 a2 a3 : Value} {y0 : Int32} {y1 : Nat} : zex zTb d zqX0_append 15 [a0, a1, a2, a3] [.ref y1, .int y0] f m = if zisa (f y1) = true then zex zTb d zqX0_append 16 [a0, a1, a2, a3] [.int (Int32.ofNat (zln (f y1))), .int y0] f m else none := (zx_alen zh_X0_append_15)
theorem ze_X0_append_16 {d : Nat} {f : zF} {m : zM} {a0 a1 a2 a3 : Value} {y0 y1 : Int32} : zex zTb d zqX0_append 16 [a0, a1, a2, a3] [.int y1, .int y0] f m = if zc2 .ge y0 y1 = true then zex zTb d zqX0_append 67 [a0, a1, a2, a3] [] f m else zex zTb d zqX0_append 19 [a0, a1, a2, a3] [] f m := (zx_icmp (tgt := 67) zh_X0_append_16 rfl)
theorem ze_X0_append_19 {d : Nat} {f : zF} {m : zM} {a0 a2 a3 : Value} {x1 : Int32} : zex zTb d zqX0_append 19 [a0, .int x1, a2, a3] [] f m = if zc1 .lt x1 = true then zex zTb d zqX0_append 67 [a0, .int x1, a2, a3] [] f m else zex zTb d zqX0_append 23 [a0, .int x1, a2, a3] [] f m := (zxl_go (x := (20, [a0, .int x1, a2, a3], [.int x1], f, m)) zh_X0_append_19 rfl).trans ((zx_if (tgt := 67) zh_X0_append_20 rfl))
theorem ze_X0_append_23 {d : Nat} {f : zF} {m : zM} {a0 a1 a3 : Value} {x2 : Int32} : zex zTb d zqX0_append 23 [a0, a1, .int x2, a3] [] f m = if zc1 .lt x2 = true then zex zTb d zqX0_append 67 [a0, a1, .int x2, a3] [] f m else zex zTb d zqX0_append 27 [a0, a1, .int x2, a3] [] f m := (zxl_go (x := (24, [a0, a1, .int x2, a3], [.int x2], f, m)) zh_X0_append_23 rfl).trans ((zx_if (tgt := 67) zh_X0_append_24 rfl))
theorem ze_X0_append_27 {d : Nat} {f : zF} {m : zM} {x0 : Nat} {a1 a2 a3 : Value} : zex zTb d zqX0_append 27 [.ref x0, a1, a2, a3] [] f m = if zco (f x0) 0 0 = true then zex zTb d zqX0_append 31 [.ref x0, a1, a2, a3] [zcf (f x0) 0] f m else none := (zxl_go (x := (28, [.ref x0, a1, a2, a3], [.ref x0], f, m)) zh_X0_append_27 rfl).trans ((zx_getfield zh_X0_append_28))
theorem ze_X0_append_31 {d : Nat} {f : zF} {m : zM} {x0 y0 : Nat} {a1 a2 a3 : Value} : zex zTb d zqX0_append 31 [.ref x0, a1, a2, a3] [.ref y0] f m = if zco (f x0) 0 3 = true then zex zTb d zqX0_append 35 [.ref x0, a1, a2, a3] [zcf (f x0) 3, .ref y0] f m else none := (zxl_go (x := (32, [.ref x0, a1, a2, a3], [.ref x0, .ref y0], f, m)) zh_X0_append_31 rfl).trans ((zx_getfield zh_X0_append_32))
theorem ze_X0_append_35 {d : Nat} {f : zF} {m : zM} {a0 a2 a3 : Value} {x1 y1 : Int32} {y0 : Nat} : zex zTb d zqX0_append 35 [a0, .int x1, a2, a3] [.int y1, .ref y0] f m = if zri (f y0) 0 y1 = true then zex zTb d zqX0_append 37 [a0, .int x1, a2, a3] [] (zup f y0 (zwi (f y0) 0 y1.toNatClampNeg x1)) m else none := (zxl_go (x := (36, [a0, .int x1, a2, a3], [.int x1, .int y1, .ref y0], f, m)) zh_X0_append_35 rfl).trans ((zx_iastore zh_X0_append_36))
theorem ze_X0_append_37 {d : Nat} {f : zF} {m : zM} {x0 : Nat} {a1 a2 a3 : Value} : zex zTb d zqX0_append 37 [.ref x0, a1, a2, a3] [] f m = if zco (f x0) 0 1 = true then zex zTb d zqX0_append 41 [.ref x0, a1, a2, a3] [zcf (f x0) 1] f m else none := (zxl_go (x := (38, [.ref x0, a1, a2, a3], [.ref x0], f, m)) zh_X0_append_37 rfl).trans ((zx_getfield zh_X0_append_38))
theorem ze_X0_append_41 {d : Nat} {f : zF} {m : zM} {x0 y0 : Nat} {a1 a2 a3 : Value} : zex zTb d zqX0_append 41 [.ref x0, a1, a2, a3] [.ref y0] f m = if zco (f x0) 0 3 = true then zex zTb d zqX0_append 45 [.ref x0, a1, a2, a3] [zcf (f x0) 3, .ref y0] f m else none := (zxl_go (x := (42, [.ref x0, a1, a2, a3], [.ref x0, .ref y0], f, m)) zh_X0_append_41 rfl).trans ((zx_getfield zh_X0_append_42))
theorem ze_X0_append_45 {d : Nat} {f : zF} {m : zM} {a0 a1 a3 : Value} {x2 y1 : Int32} {y0 : Nat} : zex zTb d zqX0_append 45 [a0, a1, .int x2, a3] [.int y1, .ref y0] f m = if zri (f y0) 0 y1 = true then zex zTb d zqX0_append 47 [a0, a1, .int x2, a3] [] (zup f y0 (zwi (f y0) 0 y1.toNatClampNeg x2)) m else none := (zxl_go (x := (46, [a0, a1, .int x2, a3], [.int x2, .int y1, .ref y0], f, m)) zh_X0_append_45 rfl).trans ((zx_iastore zh_X0_append_46))
theorem ze_X0_append_47 {d : Nat} {f : zF} {m : zM} {x0 : Nat} {a1 a2 a3 : Value} : zex zTb d zqX0_append 47 [.ref x0, a1, a2, a3] [] f m = if zco (f x0) 0 2 = true then zex zTb d zqX0_append 51 [.ref x0, a1, a2, a3] [zcf (f x0) 2] f m else none := (zxl_go (x := (48, [.ref x0, a1, a2, a3], [.ref x0], f, m)) zh_X0_append_47 rfl).trans ((zx_getfield zh_X0_append_48))
theorem ze_X0_append_51 {d : Nat} {f : zF} {m : zM} {x0 y0 : Nat} {a1 a2 a3 : Value} : zex zTb d zqX0_append 51 [.ref x0, a1, a2, a3] [.ref y0] f m = if zco (f x0) 0 3 = true then zex zTb d zqX0_append 55 [.ref x0, a1, a2, a3] [zcf (f x0) 3, .ref y0] f m else none := (zxl_go (x := (52, [.ref x0, a1, a2, a3], [.ref x0, .ref y0], f, m)) zh_X0_append_51 rfl).trans ((zx_getfield zh_X0_append_52))
theorem ze_X0_append_55 {d : Nat} {f : zF} {m : zM} {a0 a1 a2 : Value} {x3 y1 : Int32} {y0 : Nat} : zex zTb d zqX0_append 55 [a0, a1, a2, .int x3] [.int y1, .ref y0] f m = if zri (f y0) 0 y1 = true then zex zTb d zqX0_append 57 [a0, a1, a2, .int x3] [] (zup f y0 (zwi (f y0) 0 y1.toNatClampNeg x3)) m else none := (zxl_go (x := (56, [a0, a1, a2, .int x3], [.int x3, .int y1, .ref y0], f, m)) zh_X0_append_55 rfl).trans ((zx_iastore zh_X0_append_56))
theorem ze_X0_append_57 {d : Nat} {f : zF} {m : zM} {x0 : Nat} {a1 a2 a3 : Value} : zex zTb d zqX0_append 57 [.ref x0, a1, a2, a3] [] f m = if zco (f x0) 0 3 = true then zex zTb d zqX0_append 62 [.ref x0, a1, a2, a3] [zcf (f x0) 3, .ref x0] f m else none := (zxl_go (x := (58, [.ref x0, a1, a2, a3], [.ref x0], f, m)) zh_X0_append_57 rfl).trans ((zxl_go (x := (59, [.ref x0, a1, a2, a3], [.ref x0, .ref x0], f, m)) zh_X0_append_58 rfl).trans ((zx_getfield zh_X0_append_59)))
theorem ze_X0_append_62 {d : Nat} {f : zF} {m : zM} {a0 a1 a2 a3 : Value} {y0 : Nat} {y1 : Int32} : zex zTb d zqX0_append 62 [a0, a1, a2, a3] [.int y1, .ref y0] f m = if (zco (f y0) 0 3 && zok (zfty 0 3) (.int (y1 + (I 1)))) = true then zex zTb d zqX0_append 67 [a0, a1, a2, a3] [] (zup f y0 (zcs (f y0) 3 (.int (y1 + (I 1))))) m else none := (zx_iconst zh_X0_append_62).trans ((zxl_go (x := (64, [a0, a1, a2, a3], [.int (y1 + (I 1)), .ref y0], f, m)) zh_X0_append_63 rfl).trans ((zx_putfield zh_X0_append_64)))
theorem ze_X0_append_67 {d : Nat} {f : zF} {m : zM} {a0 a1 a2 a3 : Value} : zex zTb d zqX0_append 67 [a0, a1, a2, a3] [] f m = some (.inl none, f, m) := (zx_ret zh_X0_append_67 rfl)
-- X0_fillRow
theorem zh_X0_fillRow_0 : zfe zqX0_fillRow.i 0 = some (0, .iconst 0, 1, 0, 0, 0) := rfl
theorem zh_X0_fillRow_1 : zfe zqX0_fillRow.i 1 = some (1, .istore 4, 2, 0, 0, 0) := rfl
theorem zh_X0_fillRow_3 : zfe zqX0_fillRow.i 3 = some (3, .iload 4, 2, 0, 0, 0) := rfl
theorem zh_X0_fillRow_5 : zfe zqX0_fillRow.i 5 = some (5, .aload_n 3, 1, 0, 0, 0) := rfl
theorem zh_X0_fillRow_6 : zfe zqX0_fillRow.i 6 = some (6, .arraylength, 1, 0, 0, 0) := rfl
theorem zh_X0_fillRow_7 : zfe zqX0_fillRow.i 7 = some (7, .if_icmp .ge 14, 3, 0, 0, 0) := rfl
theorem zh_X0_fillRow_10 : zfe zqX0_fillRow.i 10 = some (10, .aload_n 3, 1, 0, 0, 0) := rfl
theorem zh_X0_fillRow_11 : zfe zqX0_fillRow.i 11 = some (11, .iload 4, 2, 0, 0, 0) := rfl
theorem zh_X0_fillRow_13 : zfe zqX0_fillRow.i 13 = some (13, .lconst 0, 1, 0, 0, 0) := rfl
theorem zh_X0_fillRow_14 : zfe zqX0_fillRow.i 14 = some (14, .lastore, 1, 0, 0, 0) := rfl
theorem zh_X0_fillRow_15 : zfe zqX0_fillRow.i 15 = some (15, .iinc 4 1, 3, 0, 0, 0) := rfl
theorem zh_X0_fillRow_18 : zfe zqX0_fillRow.i 18 = some (18, .goto (-15), 3, 0, 0, 0) := rfl
theorem zh_X0_fillRow_21 : zfe zqX0_fillRow.i 21 = some (21, .iconst 0, 1, 0, 0, 0) := rfl
theorem zh_X0_fillRow_22 : zfe zqX0_fillRow.i 22 = some (22, .istore 4, 2, 0, 0, 0) := rfl
theorem zh_X0_fillRow_24 : zfe zqX0_fillRow.i 24 = some (24, .iload 4, 2, 0, 0, 0) := rfl
theorem zh_X0_fillRow_26 : zfe zqX0_fillRow.i 26 = some (26, .aload_n 0, 1, 0, 0, 0) := rfl
theorem zh_X0_fillRow_27 : zfe zqX0_fillRow.i 27 = some (27, .getfield 21, 3, 0, 3, 0) := rfl
theorem zh_X0_fillRow_30 : zfe zqX0_fillRow.i 30 = some (30, .if_icmp .ge 62, 3, 0, 0, 0) := rfl
theorem zh_X0_fillRow_33 : zfe zqX0_fillRow.i 33 = some (33, .aload_n 0, 1, 0, 0, 0) := rfl
theorem zh_X0_fillRow_34 : zfe zqX0_fillRow.i 34 = some (34, .getfield 11, 3, 0, 0, 0) := rfl
theorem zh_X0_fillRow_37 : zfe zqX0_fillRow.i 37 = some (37, .iload 4, 2, 0, 0, 0) := rfl
theorem zh_X0_fillRow_39 : zfe zqX0_fillRow.i 39 = some (39, .iaload, 1, 0, 0, 0) := rfl
theorem zh_X0_fillRow_40 : zfe zqX0_fillRow.i 40 = some (40, .istore 5, 2, 0, 0, 0) := rfl
theorem zh_X0_fillRow_42 : zfe zqX0_fillRow.i 42 = some (42, .lload_n 1, 1, 0, 0, 0) := rfl
theorem zh_X0_fillRow_43 : zfe zqX0_fillRow.i 43 = some (43, .aload_n 0, 1, 0, 0, 0) := rfl
theorem zh_X0_fillRow_44 : zfe zqX0_fillRow.i 44 = some (44, .getfield 15, 3, 0, 1, 0) := rfl
theorem zh_X0_fillRow_47 : zfe zqX0_fillRow.i 47 = some (47, .iload 4, 2, 0, 0, 0) := rfl
theorem zh_X0_fillRow_49 : zfe zqX0_fillRow.i 49 = some (49, .iaload, 1, 0, 0, 0) := rfl
theorem zh_X0_fillRow_50 : zfe zqX0_fillRow.i 50 = some (50, .lushr, 1, 0, 0, 0) := rfl
theorem zh_X0_fillRow_51 : zfe zqX0_fillRow.i 51 = some (51, .lconst 1, 1, 0, 0, 0) := rfl
theorem zh_X0_fillRow_52 : zfe zqX0_fillRow.i 52 = some (52, .land, 1, 0, 0, 0) := rfl
theorem zh_X0_fillRow_53 : zfe zqX0_fillRow.i 53 = some (53, .lconst 0, 1, 0, 0, 0) := rfl
theorem zh_X0_fillRow_54 : zfe zqX0_fillRow.i 54 = some (54, .lcmp, 1, 0, 0, 0) := rfl
theorem zh_X0_fillRow_55 : zfe zqX0_fillRow.i 55 = some (55, .ifCond .eq 31, 3, 0, 0, 0) := rfl
theorem zh_X0_fillRow_58 : zfe zqX0_fillRow.i 58 = some (58, .iload 5, 2, 0, 0, 0) := rfl
theorem zh_X0_fillRow_60 : zfe zqX0_fillRow.i 60 = some (60, .ifCond .lt 26, 3, 0, 0, 0) := rfl
theorem zh_X0_fillRow_63 : zfe zqX0_fillRow.i 63 = some (63, .iload 5, 2, 0, 0, 0) := rfl
theorem zh_X0_fillRow_65 : zfe zqX0_fillRow.i 65 = some (65, .aload_n 3, 1, 0, 0, 0) := rfl
theorem zh_X0_fillRow_66 : zfe zqX0_fillRow.i 66 = some (66, .arraylength, 1, 0, 0, 0) := rfl
theorem zh_X0_fillRow_67 : zfe zqX0_fillRow.i 67 = some (67, .if_icmp .ge 19, 3, 0, 0, 0) := rfl
theorem zh_X0_fillRow_70 : zfe zqX0_fillRow.i 70 = some (70, .aload_n 3, 1, 0, 0, 0) := rfl
theorem zh_X0_fillRow_71 : zfe zqX0_fillRow.i 71 = some (71, .iload 5, 2, 0, 0, 0) := rfl
theorem zh_X0_fillRow_73 : zfe zqX0_fillRow.i 73 = some (73, .dup2, 1, 0, 0, 0) := rfl
theorem zh_X0_fillRow_74 : zfe zqX0_fillRow.i 74 = some (74, .laload, 1, 0, 0, 0) := rfl
theorem zh_X0_fillRow_75 : zfe zqX0_fillRow.i 75 = some (75, .lconst 1, 1, 0, 0, 0) := rfl
theorem zh_X0_fillRow_76 : zfe zqX0_fillRow.i 76 = some (76, .aload_n 0, 1, 0, 0, 0) := rfl
theorem zh_X0_fillRow_77 : zfe zqX0_fillRow.i 77 = some (77, .getfield 18, 3, 0, 2, 0) := rfl
theorem zh_X0_fillRow_80 : zfe zqX0_fillRow.i 80 = some (80, .iload 4, 2, 0, 0, 0) := rfl
theorem zh_X0_fillRow_82 : zfe zqX0_fillRow.i 82 = some (82, .iaload, 1, 0, 0, 0) := rfl
theorem zh_X0_fillRow_83 : zfe zqX0_fillRow.i 83 = some (83, .lshl, 1, 0, 0, 0) := rfl
theorem zh_X0_fillRow_84 : zfe zqX0_fillRow.i 84 = some (84, .lor, 1, 0, 0, 0) := rfl
theorem zh_X0_fillRow_85 : zfe zqX0_fillRow.i 85 = some (85, .lastore, 1, 0, 0, 0) := rfl
theorem zh_X0_fillRow_86 : zfe zqX0_fillRow.i 86 = some (86, .iinc 4 1, 3, 0, 0, 0) := rfl
theorem zh_X0_fillRow_89 : zfe zqX0_fillRow.i 89 = some (89, .goto (-65), 3, 0, 0, 0) := rfl
theorem zh_X0_fillRow_92 : zfe zqX0_fillRow.i 92 = some (92, .return_, 1, 0, 0, 0) := rfl
theorem ze_X0_fillRow_0 {d : Nat} {f : zF} {m : zM} {a0 a1 a2 a3 a4 a5 : Value} : zex zTb d zqX0_fillRow 0 [a0, a1, a2, a3, a4, a5] [] f m = zex zTb d zqX0_fillRow 3 [a0, a1, a2, (zclr a3), .int (I 0), a5] [] f m := (zx_iconst zh_X0_fillRow_0).trans ((zxl_go (x := (3, [a0, a1, a2, (zclr a3), .int (I 0), a5], [], f, m)) zh_X0_fillRow_1 rfl))
theorem ze_X0_fillRow_3 {d : Nat} {f : zF} {m : zM} {a0 a1 a2 a5 : Value} {x3 : Nat} {x4 : Int32} : zex zTb d zqX0_fillRow 3 [a0, a1, a2, .ref x3, .int x4, a5] [] f m = if zisa (f x3) = true then zex zTb d zqX0_fillRow 7 [a0, a1, a2, .ref x3, .int x4, a5] [.int (Int32.ofNat (zln (f x3))), .int x4] f m else none := (zxl_go (x := (5, [a0, a1, a2, .ref x3, .int x4, a5], [.int x4], f, m)) zh_X0_fillRow_3 rfl).trans ((zxl_go (x := (6, [a0, a1, a2, .ref x3, .int x4, a5], [.ref x3, .int x4], f, m)) zh_X0_fillRow_5 rfl).trans ((zx_alen zh_X0_fillRow_6)))
theorem ze_X0_fillRow_7 {d : Nat} {f : zF} {m : zM} {a0 a1 a2 a3 a4 a5 : Value} {y0 y1 : Int32} : zex zTb d zqX0_fillRow 7 [a0, a1, a2, a3, a4, a5] [.int y1, .int y0] f m = if zc2 .ge y0 y1 = true then zex zTb d zqX0_fillRow 21 [a0, a1, a2, a3, a4, a5] [] f m else zex zTb d zqX0_fillRow 10 [a0, a1, a2, a3, a4, a5] [] f m := (zx_icmp (tgt := 21) zh_X0_fillRow_7 rfl)
theorem ze_X0_fillRow_10 {d : Nat} {f : zF} {m : zM} {a0 a1 a2 a5 : Value} {x3 : Nat} {x4 : Int32} : zex zTb d zqX0_fillRow 10 [a0, a1, a2, .ref x3, .int x4, a5] [] f m = if zrl (f x3) x4 = true then zex zTb d zqX0_fillRow 15 [a0, a1, a2, .ref x3, .int x4, a5] [] (zup f x3 (zwl (f x3) x4.toNatClampNeg (J 0))) m else none := (zxl_go (x := (11, [a0, a1, a2, .ref x3, .int x4, a5], [.ref x3], f, m)) zh_X0_fillRow_10 rfl).trans ((zxl_go (x := (13, [a0, a1, a2, .ref x3, .int x4, a5], [.int x4, .ref x3], f, m)) zh_X0_fillRow_11 rfl).trans ((zx_lconst (v := 0) zh_X0_fillRow_13 (by decide)).trans ((zx_lastore zh_X0_fillRow_14))))
theorem ze_X0_fillRow_15 {d : Nat} {f : zF} {m : zM} {a0 a1 a2 a3 a5 : Value} {x4 : Int32} : zex zTb d zqX0_fillRow 15 [a0, a1, a2, a3, .int x4, a5] [] f m = zex zTb d zqX0_fillRow 3 [a0, a1, a2, (zclr a3), .int (x4 + I 1), a5] [] f m := (zxl_go (x := (18, [a0, a1, a2, (zclr a3), .int (x4 + I 1), a5], [], f, m)) zh_X0_fillRow_15 rfl).trans ((zx_goto zh_X0_fillRow_18 rfl))
theorem ze_X0_fillRow_21 {d : Nat} {f : zF} {m : zM} {a0 a1 a2 a3 a4 a5 : Value} : zex zTb d zqX0_fillRow 21 [a0, a1, a2, a3, a4, a5] [] f m = zex zTb d zqX0_fillRow 24 [a0, a1, a2, (zclr a3), .int (I 0), a5] [] f m := (zx_iconst zh_X0_fillRow_21).trans ((zxl_go (x := (24, [a0, a1, a2, (zclr a3), .int (I 0), a5], [], f, m)) zh_X0_fillRow_22 rfl))
theorem ze_X0_fillRow_24 {d : Nat} {f : zF} {m : zM} {x0 : Nat} {a1 a2 a3 a5 : Value} {x4 : Int32} : zex zTb d zqX0_fillRow 24 [.ref x0, a1, a2, a3, .int x4, a5] [] f m = if zco (f x0) 0 3 = true then zex zTb d zqX0_fillRow 30 [.ref x0, a1, a2, a3, .int x4, a5] [zcf (f x0) 3, .int x4] f m else none := (zxl_go (x := (26, [.ref x0, a1, a2, a3, .int x4, a5], [.int x4], f, m)) zh_X0_fillRow_24 rfl).trans ((zxl_go (x := (27, [.ref x0, a1, a2, a3, .int x4, a5], [.ref x0, .int x4], f, m)) zh_X0_fillRow_26 rfl).trans ((zx_getfield zh_X0_fillRow_27)))
theorem ze_X0_fillRow_30 {d : Nat} {f : zF} {m : zM} {a0 a1 a2 a3 a4 a5 : Value} {y0 y1 : Int32} : zex zTb d zqX0_fillRow 30 [a0, a1, a2, a3, a4, a5] [.int y1, .int y0] f m = if zc2 .ge y0 y1 = true then zex zTb d zqX0_fillRow 92 [a0, a1, a2, a3, a4, a5] [] f m else zex zTb d zqX0_fillRow 33 [a0, a1, a2, a3, a4, a5] [] f m := (zx_icmp (tgt := 92) zh_X0_fillRow_30 rfl)
theorem ze_X0_fillRow_33 {d : Nat} {f : zF} {m : zM} {x0 : Nat} {a1 a2 a3 a4 a5 : Value} : zex zTb d zqX0_fillRow 33 [.ref x0, a1, a2, a3, a4, a5] [] f m = if zco (f x0) 0 0 = true then zex zTb d zqX0_fillRow 37 [.ref x0, a1, a2, a3, a4, a5] [zcf (f x0) 0] f m else none := (zxl_go (x := (34, [.ref x0, a1, a2, a3, a4, a5], [.ref x0], f, m)) zh_X0_fillRow_33 rfl).trans ((zx_getfield zh_X0_fillRow_34))
theorem ze_X0_fillRow_37 {d : Nat} {f : zF} {m : zM} {a0 a1 a2 a3 a5 : Value} {x4 : Int32} {y0 : Nat} : zex zTb d zqX0_fillRow 37 [a0, a1, a2, a3, .int x4, a5] [.ref y0] f m = if zr8 (f y0) x4 = true then zex zTb d zqX0_fillRow 40 [a0, a1, a2, a3, .int x4, a5] [.int (zgi (f y0) x4.toNatClampNeg)] f m else none := (zxl_go (x := (39, [a0, a1, a2, a3, .int x4, a5], [.int x4, .ref y0], f, m)) zh_X0_fillRow_37 rfl).trans ((zx_iaload zh_X0_fillRow_39))
theorem ze_X0_fillRow_40 {d : Nat} {f : zF} {m : zM} {x0 : Nat} {x1 : Int64} {a2 a3 a4 a5 : Value} {y0 : Int32} : zex zTb d zqX0_fillRow 40 [.ref x0, .long x1, a2, a3, a4, a5] [.int y0] f m = if zco (f x0) 0 1 = true then zex zTb d zqX0_fillRow 47 [.ref x0, .long x1, a2, a3, (zclr a4), .int y0] [zcf (f x0) 1, .long x1] f m else none := (zxl_go (x := (42, [.ref x0, .long x1, a2, a3, (zclr a4), .int y0], [], f, m)) zh_X0_fillRow_40 rfl).trans ((zxl_go (x := (43, [.ref x0, .long x1, a2, a3, (zclr a4), .int y0], [.long x1], f, m)) zh_X0_fillRow_42 rfl).trans ((zxl_go (x := (44, [.ref x0, .long x1, a2, a3, (zclr a4), .int y0], [.ref x0, .long x1], f, m)) zh_X0_fillRow_43 rfl).trans ((zx_getfield zh_X0_fillRow_44))))
theorem ze_X0_fillRow_47 {d : Nat} {f : zF} {m : zM} {a0 a1 a2 a3 a5 : Value} {x4 : Int32} {y0 : Int64} {y1 : Nat} : zex zTb d zqX0_fillRow 47 [a0, a1, a2, a3, .int x4, a5] [.ref y1, .long y0] f m = if zr8 (f y1) x4 = true then zex zTb d zqX0_fillRow 50 [a0, a1, a2, a3, .int x4, a5] [.int (zgi (f y1) x4.toNatClampNeg), .long y0] f m else none := (zxl_go (x := (49, [a0, a1, a2, a3, .int x4, a5], [.int x4, .ref y1, .long y0], f, m)) zh_X0_fillRow_47 rfl).trans ((zx_iaload zh_X0_fillRow_49))
theorem ze_X0_fillRow_50 {d : Nat} {f : zF} {m : zM} {a0 a1 a2 a3 a4 a5 : Value} {y0 : Int64} {y1 : Int32} : zex zTb d zqX0_fillRow 50 [a0, a1, a2, a3, a4, a5] [.int y1, .long y0] f m = if zc1 .eq (lg_cmp (((y0.toUInt64 >>> (y1.toInt64.toUInt64 &&& Int64.toUInt64 63)).toInt64) &&& (J 1)) (J 0)) = true then zex zTb d zqX0_fillRow 86 [a0, a1, a2, a3, a4, a5] [] f m else zex zTb d zqX0_fillRow 58 [a0, a1, a2, a3, a4, a5] [] f m := (zxl_go (x := (51, [a0, a1, a2, a3, a4, a5], [.long ((y0.toUInt64 >>> (y1.toInt64.toUInt64 &&& Int64.toUInt64 63)).toInt64)], f, m)) zh_X0_fillRow_50 rfl).trans ((zx_lconst (v := 1) zh_X0_fillRow_51 (by decide)).trans ((zxl_go (x := (53, [a0, a1, a2, a3, a4, a5], [.long (((y0.toUInt64 >>> (y1.toInt64.toUInt64 &&& Int64.toUInt64 63)).toInt64) &&& (J 1))], f, m)) zh_X0_fillRow_52 rfl).trans ((zx_lconst (v := 0) zh_X0_fillRow_53 (by decide)).trans ((zxl_go (x := (55, [a0, a1, a2, a3, a4, a5], [.int (lg_cmp (((y0.toUInt64 >>> (y1.toInt64.toUInt64 &&& Int64.toUInt64 63)).toInt64) &&& (J 1)) (J 0))], f, m)) zh_X0_fillRow_54 rfl).trans ((zx_if (tgt := 86) zh_X0_fillRow_55 rfl))))))
theorem ze_X0_fillRow_58 {d : Nat} {f : zF} {m : zM} {a0 a1 a2 a3 a4 : Value} {x5 : Int32} : zex zTb d zqX0_fillRow 58 [a0, a1, a2, a3, a4, .int x5] [] f m = if zc1 .lt x5 = true then zex zTb d zqX0_fillRow 86 [a0, a1, a2, a3, a4, .int x5] [] f m else zex zTb d zqX0_fillRow 63 [a0, a1, a2, a3, a4, .int x5] [] f m := (zxl_go (x := (60, [a0, a1, a2, a3, a4, .int x5], [.int x5], f, m)) zh_X0_fillRow_58 rfl).trans ((zx_if (tgt := 86) zh_X0_fillRow_60 rfl))
theorem ze_X0_fillRow_63 {d : Nat} {f : zF} {m : zM} {a0 a1 a2 a4 : Value} {x3 : Nat} {x5 : Int32} : zex zTb d zqX0_fillRow 63 [a0, a1, a2, .ref x3, a4, .int x5] [] f m = if zisa (f x3) = true then zex zTb d zqX0_fillRow 67 [a0, a1, a2, .ref x3, a4, .int x5] [.int (Int32.ofNat (zln (f x3))), .int x5] f m else none := (zxl_go (x := (65, [a0, a1, a2, .ref x3, a4, .int x5], [.int x5], f, m)) zh_X0_fillRow_63 rfl).trans ((zxl_go (x := (66, [a0, a1, a2, .ref x3, a4, .int x5], [.ref x3, .int x5], f, m)) zh_X0_fillRow_65 rfl).trans ((zx_alen zh_X0_fillRow_66)))
theorem ze_X0_fillRow_67 {d : Nat} {f : zF} {m : zM} {a0 a1 a2 a3 a4 a5 : Value} {y0 y1 : Int32} : zex zTb d zqX0_fillRow 67 [a0, a1, a2, a3, a4, a5] [.int y1, .int y0] f m = if zc2 .ge y0 y1 = true then zex zTb d zqX0_fillRow 86 [a0, a1, a2, a3, a4, a5] [] f m else zex zTb d zqX0_fillRow 70 [a0, a1, a2, a3, a4, a5] [] f m := (zx_icmp (tgt := 86) zh_X0_fillRow_67 rfl)
theorem ze_X0_fillRow_70 {d : Nat} {f : zF} {m : zM} {a0 a1 a2 a4 : Value} {x3 : Nat} {x5 : Int32} : zex zTb d zqX0_fillRow 70 [a0, a1, a2, .ref x3, a4, .int x5] [] f m = if zrl (f x3) x5 = true then zex zTb d zqX0_fillRow 75 [a0, a1, a2, .ref x3, a4, .int x5] [.long (zgl (f x3) x5.toNatClampNeg), .int x5, .ref x3] f m else none := (zxl_go (x := (71, [a0, a1, a2, .ref x3, a4, .int x5], [.ref x3], f, m)) zh_X0_fillRow_70 rfl).trans ((zxl_go (x := (73, [a0, a1, a2, .ref x3, a4, .int x5], [.int x5, .ref x3], f, m)) zh_X0_fillRow_71 rfl).trans ((zxl_go (x := (74, [a0, a1, a2, .ref x3, a4, .int x5], [.int x5, .ref x3, .int x5, .ref x3], f, m)) zh_X0_fillRow_73 rfl).trans ((zx_laload zh_X0_fillRow_74))))
theorem ze_X0_fillRow_75 {d : Nat} {f : zF} {m : zM} {x0 y0 : Nat} {a1 a2 a3 a4 a5 : Value} {y1 : Int32} {y2 : Int64} : zex zTb d zqX0_fillRow 75 [.ref x0, a1, a2, a3, a4, a5] [.long y2, .int y1, .ref y0] f m = if zco (f x0) 0 2 = true then zex zTb d zqX0_fillRow 80 [.ref x0, a1, a2, a3, a4, a5] [zcf (f x0) 2, .long (J 1), .long y2, .int y1, .ref y0] f m else none := (zx_lconst (v := 1) zh_X0_fillRow_75 (by decide)).trans ((zxl_go (x := (77, [.ref x0, a1, a2, a3, a4, a5], [.ref x0, .long (J 1), .long y2, .int y1, .ref y0], f, m)) zh_X0_fillRow_76 rfl).trans ((zx_getfield zh_X0_fillRow_77)))
theorem ze_X0_fillRow_80 {d : Nat} {f : zF} {m : zM} {a0 a1 a2 a3 a5 : Value} {x4 y1 : Int32} {y0 y4 : Nat} {y2 y3 : Int64} : zex zTb d zqX0_fillRow 80 [a0, a1, a2, a3, .int x4, a5] [.ref y4, .long y3, .long y2, .int y1, .ref y0] f m = if zr8 (f y4) x4 = true then zex zTb d zqX0_fillRow 83 [a0, a1, a2, a3, .int x4, a5] [.int (zgi (f y4) x4.toNatClampNeg), .long y3, .long y2, .int y1, .ref y0] f m else none := (zxl_go (x := (82, [a0, a1, a2, a3, .int x4, a5], [.int x4, .ref y4, .long y3, .long y2, .int y1, .ref y0], f, m)) zh_X0_fillRow_80 rfl).trans ((zx_iaload zh_X0_fillRow_82))
theorem ze_X0_fillRow_83 {d : Nat} {f : zF} {m : zM} {a0 a1 a2 a3 a4 a5 : Value} {y0 : Nat} {y1 y4 : Int32} {y2 y3 : Int64} : zex zTb d zqX0_fillRow 83 [a0, a1, a2, a3, a4, a5] [.int y4, .long y3, .long y2, .int y1, .ref y0] f m = if zrl (f y0) y1 = true then zex zTb d zqX0_fillRow 86 [a0, a1, a2, a3, a4, a5] [] (zup f y0 (zwl (f y0) y1.toNatClampNeg (y2 ||| (y3 <<< (y4.toInt64 &&& 63))))) m else none := (zxl_go (x := (84, [a0, a1, a2, a3, a4, a5], [.long (y3 <<< (y4.toInt64 &&& 63)), .long y2, .int y1, .ref y0], f, m)) zh_X0_fillRow_83 rfl).trans ((zxl_go (x := (85, [a0, a1, a2, a3, a4, a5], [.long (y2 ||| (y3 <<< (y4.toInt64 &&& 63))), .int y1, .ref y0], f, m)) zh_X0_fillRow_84 rfl).trans ((zx_lastore zh_X0_fillRow_85)))
theorem ze_X0_fillRow_86 {d : Nat} {f : zF} {m : zM} {a0 a1 a2 a3 a5 : Value} {x4 : Int32} : zex zTb d zqX0_fillRow 86 [a0, a1, a2, a3, .int x4, a5] [] f m = zex zTb d zqX0_fillRow 24 [a0, a1, a2, (zclr a3), .int (x4 + I 1), a5] [] f m := (zxl_go (x := (89, [a0, a1, a2, (zclr a3), .int (x4 + I 1), a5], [], f, m)) zh_X0_fillRow_86 rfl).trans ((zx_goto zh_X0_fillRow_89 rfl))
theorem ze_X0_fillRow_92 {d : Nat} {f : zF} {m : zM} {a0 a1 a2 a3 a4 a5 : Value} : zex zTb d zqX0_fillRow 92 [a0, a1, a2, a3, a4, a5] [] f m = some (.inl none, f, m) := (zx_ret zh_X0_fillRow_92 rfl)
-- X1_init
theorem zh_X1_init_0 : zfe zqX1_init.i 0 = some (0, .aload_n 0, 1, 0, 0, 0) := rfl
theorem zh_X1_init_1 : zfe zqX1_init.i 1 = some (1, .invokespecial 3, 3, 0, 0, 0) := rfl
theorem zh_X1_init_4 : zfe zqX1_init.i 4 = some (4, .aload_n 0, 1, 0, 0, 0) := rfl
theorem zh_X1_init_5 : zfe zqX1_init.i 5 = some (5, .bipush 10, 2, 0, 0, 0) := rfl
theorem zh_X1_init_7 : zfe zqX1_init.i 7 = some (7, .newarray .long, 2, 0, 0, 0) := rfl
theorem zh_X1_init_9 : zfe zqX1_init.i 9 = some (9, .putfield 9, 3, 1, 0, 1) := rfl
theorem zh_X1_init_12 : zfe zqX1_init.i 12 = some (12, .aload_n 0, 1, 0, 0, 0) := rfl
theorem zh_X1_init_13 : zfe zqX1_init.i 13 = some (13, .bipush 10, 2, 0, 0, 0) := rfl
theorem zh_X1_init_15 : zfe zqX1_init.i 15 = some (15, .newarray .boolean, 2, 0, 0, 0) := rfl
theorem zh_X1_init_17 : zfe zqX1_init.i 17 = some (17, .putfield 15, 3, 1, 1, 1) := rfl
theorem zh_X1_init_20 : zfe zqX1_init.i 20 = some (20, .aload_n 0, 1, 0, 0, 0) := rfl
theorem zh_X1_init_21 : zfe zqX1_init.i 21 = some (21, .new 19, 3, 3, 0, 0) := rfl
theorem zh_X1_init_24 : zfe zqX1_init.i 24 = some (24, .dup, 1, 0, 0, 0) := rfl
theorem zh_X1_init_25 : zfe zqX1_init.i 25 = some (25, .invokespecial 21, 3, 24, 1, 1) := rfl
theorem zh_X1_init_28 : zfe zqX1_init.i 28 = some (28, .putfield 22, 3, 1, 3, 0) := rfl
theorem zh_X1_init_31 : zfe zqX1_init.i 31 = some (31, .aload_n 0, 1, 0, 0, 0) := rfl
theorem zh_X1_init_32 : zfe zqX1_init.i 32 = some (32, .new 19, 3, 3, 0, 0) := rfl
theorem zh_X1_init_35 : zfe zqX1_init.i 35 = some (35, .dup, 1, 0, 0, 0) := rfl
theorem zh_X1_init_36 : zfe zqX1_init.i 36 = some (36, .invokespecial 21, 3, 24, 1, 1) := rfl
theorem zh_X1_init_39 : zfe zqX1_init.i 39 = some (39, .putfield 26, 3, 1, 4, 0) := rfl
theorem zh_X1_init_42 : zfe zqX1_init.i 42 = some (42, .return_, 1, 0, 0, 0) := rfl
theorem ze_X1_init_0 {d : Nat} {f : zF} {nx kk n : Nat} {x0 : Nat} : zex zTb d zqX1_init 0 [.ref x0] [] f (some nx, kk, n) = zex zTb d zqX1_init 9 [.ref x0] [.ref nx, .ref x0] (zup f nx (.inl (1, (10, .inr (.inl (fun _ => 0)))))) (some (nx + 1), kk + 1, n + 10) := (zxl_go (x := (1, [.ref x0], [.ref x0], f, (some nx, kk, n))) zh_X1_init_0 rfl).trans ((zx_objinit zh_X1_init_1 (Nat.le_of_ble_eq_true rfl)).trans ((zxl_go (x := (5, [.ref x0], [.ref x0], f, (some nx, kk, n))) zh_X1_init_4 rfl).trans ((zx_bipush zh_X1_init_5 (by decide)).trans ((zx_newarr (N := 10) zh_X1_init_7 rfl (by decide) (by decide))))))
theorem ze_X1_init_9 {d : Nat} {f : zF} {m : zM} {a0 : Value} {y0 y1 : Nat} : zex zTb d zqX1_init 9 [a0] [.ref y1, .ref y0] f m = if (zco (f y0) 1 0 && zok (zfty 1 0) (.ref y1)) = true then zex zTb d zqX1_init 12 [a0] [] (zup f y0 (zcs (f y0) 0 (.ref y1))) m else none := (zx_putfield zh_X1_init_9)
theorem ze_X1_init_12 {d : Nat} {f : zF} {nx kk n : Nat} {x0 : Nat} : zex zTb d zqX1_init 12 [.ref x0] [] f (some nx, kk, n) = zex zTb d zqX1_init 17 [.ref x0] [.ref nx, .ref x0] (zup f nx (.inl (2, (10, .inl (fun _ => 0))))) (some (nx + 1), kk + 1, n + 10) := (zxl_go (x := (13, [.ref x0], [.ref x0], f, (some nx, kk, n))) zh_X1_init_12 rfl).trans ((zx_bipush zh_X1_init_13 (by decide)).trans ((zx_newarr (N := 10) zh_X1_init_15 rfl (by decide) (by decide))))
theorem ze_X1_init_17 {d : Nat} {f : zF} {m : zM} {a0 : Value} {y0 y1 : Nat} : zex zTb d zqX1_init 17 [a0] [.ref y1, .ref y0] f m = if (zco (f y0) 1 1 && zok (zfty 1 1) (.ref y1)) = true then zex zTb d zqX1_init 20 [a0] [] (zup f y0 (zcs (f y0) 1 (.ref y1))) m else none := (zx_putfield zh_X1_init_17)
theorem ze_X1_init_20 {d : Nat} {f : zF} {nx kk n : Nat} {x0 : Nat} : zex zTb d zqX1_init 20 [.ref x0] [] f (some nx, kk, n) = zex zTb d zqX1_init 24 [.ref x0] [.ref nx, .ref x0] (zup f nx (.inr (3, zdf 3))) (some (nx + 1), kk + 1, n + 2) := (zxl_go (x := (21, [.ref x0], [.ref x0], f, (some nx, kk, n))) zh_X1_init_20 rfl).trans ((zx_new zh_X1_init_21 (by decide)))
theorem ze_X1_init_24 {d : Nat} {f : zF} {m : zM} {a0 : Value} {y0 y1 : Nat} : zex zTb d zqX1_init 24 [a0] [.ref y1, .ref y0] f m = zcalI zTb (zrun zTb d 24 [.ref y1] f m) d zqX1_init 28 [a0] [.ref y1, .ref y0] := (zxl_go (x := (25, [a0], [.ref y1, .ref y1, .ref y0], f, m)) zh_X1_init_24 rfl).trans (((zx_special zh_X1_init_25 (by decide) (Nat.le_of_ble_eq_true rfl) rfl rfl).trans (if_pos (Nat.le_of_ble_eq_true rfl))))
theorem ze_X1_init_28 {d : Nat} {f : zF} {m : zM} {a0 : Value} {y0 y1 : Nat} : zex zTb d zqX1_init 28 [a0] [.ref y1, .ref y0] f m = if (zco (f y0) 1 3 && zok (zfty 1 3) (.ref y1)) = true then zex zTb d zqX1_init 31 [a0] [] (zup f y0 (zcs (f y0) 3 (.ref y1))) m else none := (zx_putfield zh_X1_init_28)
theorem ze_X1_init_31 {d : Nat} {f : zF} {nx kk n : Nat} {x0 : Nat} : zex zTb d zqX1_init 31 [.ref x0] [] f (some nx, kk, n) = zex zTb d zqX1_init 35 [.ref x0] [.ref nx, .ref x0] (zup f nx (.inr (3, zdf 3))) (some (nx + 1), kk + 1, n + 2) := (zxl_go (x := (32, [.ref x0], [.ref x0], f, (some nx, kk, n))) zh_X1_init_31 rfl).trans ((zx_new zh_X1_init_32 (by decide)))
theorem ze_X1_init_35 {d : Nat} {f : zF} {m : zM} {a0 : Value} {y0 y1 : Nat} : zex zTb d zqX1_init 35 [a0] [.ref y1, .ref y0] f m = zcalI zTb (zrun zTb d 24 [.ref y1] f m) d zqX1_init 39 [a0] [.ref y1, .ref y0] := (zxl_go (x := (36, [a0], [.ref y1, .ref y1, .ref y0], f, m)) zh_X1_init_35 rfl).trans (((zx_special zh_X1_init_36 (by decide) (Nat.le_of_ble_eq_true rfl) rfl rfl).trans (if_pos (Nat.le_of_ble_eq_true rfl))))
theorem ze_X1_init_39 {d : Nat} {f : zF} {m : zM} {a0 : Value} {y0 y1 : Nat} : zex zTb d zqX1_init 39 [a0] [.ref y1, .ref y0] f m = if (zco (f y0) 1 4 && zok (zfty 1 4) (.ref y1)) = true then zex zTb d zqX1_init 42 [a0] [] (zup f y0 (zcs (f y0) 4 (.ref y1))) m else none := (zx_putfield zh_X1_init_39)
theorem ze_X1_init_42 {d : Nat} {f : zF} {m : zM} {a0 : Value} : zex zTb d zqX1_init 42 [a0] [] f m = some (.inl none, f, m) := (zx_ret zh_X1_init_42 rfl)
-- X1_has
theorem zh_X1_has_0 : zfe zqX1_has.i 0 = some (0, .iload_n 1, 1, 0, 0, 0) := rfl
theorem zh_X1_has_1 : zfe zqX1_has.i 1 = some (1, .ifCond .lt 24, 3, 0, 0, 0) := rfl
theorem zh_X1_has_4 : zfe zqX1_has.i 4 = some (4, .iload_n 1, 1, 0, 0, 0) := rfl
theorem zh_X1_has_5 : zfe zqX1_has.i 5 = some (5, .aload_n 0, 1, 0, 0, 0) := rfl
theorem zh_X1_has_6 : zfe zqX1_has.i 6 = some (6, .getfield 29, 3, 1, 2, 0) := rfl
theorem zh_X1_has_9 : zfe zqX1_has.i 9 = some (9, .if_icmp .ge 16, 3, 0, 0, 0) := rfl
theorem zh_X1_has_12 : zfe zqX1_has.i 12 = some (12, .iload_n 1, 1, 0, 0, 0) := rfl
theorem zh_X1_has_13 : zfe zqX1_has.i 13 = some (13, .aload_n 0, 1, 0, 0, 0) := rfl
theorem zh_X1_has_14 : zfe zqX1_has.i 14 = some (14, .getfield 9, 3, 1, 0, 0) := rfl
theorem zh_X1_has_17 : zfe zqX1_has.i 17 = some (17, .arraylength, 1, 0, 0, 0) := rfl
theorem zh_X1_has_18 : zfe zqX1_has.i 18 = some (18, .if_icmp .ge 7, 3, 0, 0, 0) := rfl
theorem zh_X1_has_21 : zfe zqX1_has.i 21 = some (21, .iconst 1, 1, 0, 0, 0) := rfl
theorem zh_X1_has_22 : zfe zqX1_has.i 22 = some (22, .goto 4, 3, 0, 0, 0) := rfl
theorem zh_X1_has_25 : zfe zqX1_has.i 25 = some (25, .iconst 0, 1, 0, 0, 0) := rfl
theorem zh_X1_has_26 : zfe zqX1_has.i 26 = some (26, .ireturn, 1, 0, 0, 0) := rfl
theorem ze_X1_has_0 {d : Nat} {f : zF} {m : zM} {a0 : Value} {x1 : Int32} : zex zTb d zqX1_has 0 [a0, .int x1] [] f m = if zc1 .lt x1 = true then zex zTb d zqX1_has 25 [a0, .int x1] [] f m else zex zTb d zqX1_has 4 [a0, .int x1] [] f m := (zxl_go (x := (1, [a0, .int x1], [.int x1], f, m)) zh_X1_has_0 rfl).trans ((zx_if (tgt := 25) zh_X1_has_1 rfl))
theorem ze_X1_has_4 {d : Nat} {f : zF} {m : zM} {x0 : Nat} {x1 : Int32} : zex zTb d zqX1_has 4 [.ref x0, .int x1] [] f m = if zco (f x0) 1 2 = true then zex zTb d zqX1_has 9 [.ref x0, .int x1] [zcf (f x0) 2, .int x1] f m else none := (zxl_go (x := (5, [.ref x0, .int x1], [.int x1], f, m)) zh_X1_has_4 rfl).trans ((zxl_go (x := (6, [.ref x0, .int x1], [.ref x0, .int x1], f, m)) zh_X1_has_5 rfl).trans ((zx_getfield zh_X1_has_6)))
theorem ze_X1_has_9 {d : Nat} {f : zF} {m : zM} {a0 a1 : Value} {y0 y1 : Int32} : zex zTb d zqX1_has 9 [a0, a1] [.int y1, .int y0] f m = if zc2 .ge y0 y1 = true then zex zTb d zqX1_has 25 [a0, a1] [] f m else zex zTb d zqX1_has 12 [a0, a1] [] f m := (zx_icmp (tgt := 25) zh_X1_has_9 rfl)
theorem ze_X1_has_12 {d : Nat} {f : zF} {m : zM} {x0 : Nat} {x1 : Int32} : zex zTb d zqX1_has 12 [.ref x0, .int x1] [] f m = if zco (f x0) 1 0 = true then zex zTb d zqX1_has 17 [.ref x0, .int x1] [zcf (f x0) 0, .int x1] f m else none := (zxl_go (x := (13, [.ref x0, .int x1], [.int x1], f, m)) zh_X1_has_12 rfl).trans ((zxl_go (x := (14, [.ref x0, .int x1], [.ref x0, .int x1], f, m)) zh_X1_has_13 rfl).trans ((zx_getfield zh_X1_has_14)))
theorem ze_X1_has_17 {d : Nat} {f : zF} {m : zM} {a0 a1 : Value} {y0 : Int32} {y1 : Nat} : zex zTb d zqX1_has 17 [a0, a1] [.ref y1, .int y0] f m = if zisa (f y1) = true then zex zTb d zqX1_has 18 [a0, a1] [.int (Int32.ofNat (zln (f y1))), .int y0] f m else none := (zx_alen zh_X1_has_17)
theorem ze_X1_has_18 {d : Nat} {f : zF} {m : zM} {a0 a1 : Value} {y0 y1 : Int32} : zex zTb d zqX1_has 18 [a0, a1] [.int y1, .int y0] f m = if zc2 .ge y0 y1 = true then zex zTb d zqX1_has 25 [a0, a1] [] f m else zex zTb d zqX1_has 21 [a0, a1] [] f m := (zx_icmp (tgt := 25) zh_X1_has_18 rfl)
theorem ze_X1_has_21 {d : Nat} {f : zF} {m : zM} {a0 a1 : Value} : zex zTb d zqX1_has 21 [a0, a1] [] f m = some (.inl (some (.int (I 1))), f, m) := (zx_iconst zh_X1_has_21).trans ((zx_goto zh_X1_has_22 rfl).trans ((zx_iret zh_X1_has_26 (by first | rfl | decide))))
theorem ze_X1_has_25 {d : Nat} {f : zF} {m : zM} {a0 a1 : Value} : zex zTb d zqX1_has 25 [a0, a1] [] f m = some (.inl (some (.int (I 0))), f, m) := (zx_iconst zh_X1_has_25).trans ((zx_iret zh_X1_has_26 (by first | rfl | decide)))
-- X1_append
theorem zh_X1_append_0 : zfe zqX1_append.i 0 = some (0, .aload_n 0, 1, 0, 0, 0) := rfl
theorem zh_X1_append_1 : zfe zqX1_append.i 1 = some (1, .getfield 29, 3, 1, 2, 0) := rfl
theorem zh_X1_append_4 : zfe zqX1_append.i 4 = some (4, .aload_n 0, 1, 0, 0, 0) := rfl
theorem zh_X1_append_5 : zfe zqX1_append.i 5 = some (5, .getfield 9, 3, 1, 0, 0) := rfl
theorem zh_X1_append_8 : zfe zqX1_append.i 8 = some (8, .arraylength, 1, 0, 0, 0) := rfl
theorem zh_X1_append_9 : zfe zqX1_append.i 9 = some (9, .if_icmp .ge 11, 3, 0, 0, 0) := rfl
theorem zh_X1_append_12 : zfe zqX1_append.i 12 = some (12, .aload_n 0, 1, 0, 0, 0) := rfl
theorem zh_X1_append_13 : zfe zqX1_append.i 13 = some (13, .lload_n 1, 1, 0, 0, 0) := rfl
theorem zh_X1_append_14 : zfe zqX1_append.i 14 = some (14, .invokevirtual 33, 3, 7, 2, 1) := rfl
theorem zh_X1_append_17 : zfe zqX1_append.i 17 = some (17, .ifCond .eq 5, 3, 0, 0, 0) := rfl
theorem zh_X1_append_20 : zfe zqX1_append.i 20 = some (20, .iconst 0, 1, 0, 0, 0) := rfl
theorem zh_X1_append_21 : zfe zqX1_append.i 21 = some (21, .ireturn, 1, 0, 0, 0) := rfl
theorem zh_X1_append_22 : zfe zqX1_append.i 22 = some (22, .aload_n 0, 1, 0, 0, 0) := rfl
theorem zh_X1_append_23 : zfe zqX1_append.i 23 = some (23, .getfield 26, 3, 1, 4, 0) := rfl
theorem zh_X1_append_26 : zfe zqX1_append.i 26 = some (26, .aload_n 0, 1, 0, 0, 0) := rfl
theorem zh_X1_append_27 : zfe zqX1_append.i 27 = some (27, .getfield 22, 3, 1, 3, 0) := rfl
theorem zh_X1_append_30 : zfe zqX1_append.i 30 = some (30, .invokevirtual 37, 3, 27, 2, 3) := rfl
theorem zh_X1_append_33 : zfe zqX1_append.i 33 = some (33, .aload_n 0, 1, 0, 0, 0) := rfl
theorem zh_X1_append_34 : zfe zqX1_append.i 34 = some (34, .getfield 26, 3, 1, 4, 0) := rfl
theorem zh_X1_append_37 : zfe zqX1_append.i 37 = some (37, .lload_n 1, 1, 0, 0, 0) := rfl
theorem zh_X1_append_38 : zfe zqX1_append.i 38 = some (38, .invokevirtual 41, 3, 28, 2, 3) := rfl
theorem zh_X1_append_41 : zfe zqX1_append.i 41 = some (41, .ifCond .ne 5, 3, 0, 0, 0) := rfl
theorem zh_X1_append_44 : zfe zqX1_append.i 44 = some (44, .iconst 0, 1, 0, 0, 0) := rfl
theorem zh_X1_append_45 : zfe zqX1_append.i 45 = some (45, .ireturn, 1, 0, 0, 0) := rfl
theorem zh_X1_append_46 : zfe zqX1_append.i 46 = some (46, .aload_n 0, 1, 0, 0, 0) := rfl
theorem zh_X1_append_47 : zfe zqX1_append.i 47 = some (47, .getfield 22, 3, 1, 3, 0) := rfl
theorem zh_X1_append_50 : zfe zqX1_append.i 50 = some (50, .astore 4, 2, 0, 0, 0) := rfl
theorem zh_X1_append_52 : zfe zqX1_append.i 52 = some (52, .aload_n 0, 1, 0, 0, 0) := rfl
theorem zh_X1_append_53 : zfe zqX1_append.i 53 = some (53, .aload_n 0, 1, 0, 0, 0) := rfl
theorem zh_X1_append_54 : zfe zqX1_append.i 54 = some (54, .getfield 26, 3, 1, 4, 0) := rfl
theorem zh_X1_append_57 : zfe zqX1_append.i 57 = some (57, .putfield 22, 3, 1, 3, 0) := rfl
theorem zh_X1_append_60 : zfe zqX1_append.i 60 = some (60, .aload_n 0, 1, 0, 0, 0) := rfl
theorem zh_X1_append_61 : zfe zqX1_append.i 61 = some (61, .aload 4, 2, 0, 0, 0) := rfl
theorem zh_X1_append_63 : zfe zqX1_append.i 63 = some (63, .putfield 26, 3, 1, 4, 0) := rfl
theorem zh_X1_append_66 : zfe zqX1_append.i 66 = some (66, .aload_n 0, 1, 0, 0, 0) := rfl
theorem zh_X1_append_67 : zfe zqX1_append.i 67 = some (67, .getfield 9, 3, 1, 0, 0) := rfl
theorem zh_X1_append_70 : zfe zqX1_append.i 70 = some (70, .aload_n 0, 1, 0, 0, 0) := rfl
theorem zh_X1_append_71 : zfe zqX1_append.i 71 = some (71, .getfield 29, 3, 1, 2, 0) := rfl
theorem zh_X1_append_74 : zfe zqX1_append.i 74 = some (74, .lload_n 1, 1, 0, 0, 0) := rfl
theorem zh_X1_append_75 : zfe zqX1_append.i 75 = some (75, .lastore, 1, 0, 0, 0) := rfl
theorem zh_X1_append_76 : zfe zqX1_append.i 76 = some (76, .aload_n 0, 1, 0, 0, 0) := rfl
theorem zh_X1_append_77 : zfe zqX1_append.i 77 = some (77, .getfield 15, 3, 1, 1, 0) := rfl
theorem zh_X1_append_80 : zfe zqX1_append.i 80 = some (80, .aload_n 0, 1, 0, 0, 0) := rfl
theorem zh_X1_append_81 : zfe zqX1_append.i 81 = some (81, .getfield 29, 3, 1, 2, 0) := rfl
theorem zh_X1_append_84 : zfe zqX1_append.i 84 = some (84, .iload_n 3, 1, 0, 0, 0) := rfl
theorem zh_X1_append_85 : zfe zqX1_append.i 85 = some (85, .bastore, 1, 0, 0, 0) := rfl
theorem zh_X1_append_86 : zfe zqX1_append.i 86 = some (86, .aload_n 0, 1, 0, 0, 0) := rfl
theorem zh_X1_append_87 : zfe zqX1_append.i 87 = some (87, .dup, 1, 0, 0, 0) := rfl
theorem zh_X1_append_88 : zfe zqX1_append.i 88 = some (88, .getfield 29, 3, 1, 2, 0) := rfl
theorem zh_X1_append_91 : zfe zqX1_append.i 91 = some (91, .iconst 1, 1, 0, 0, 0) := rfl
theorem zh_X1_append_92 : zfe zqX1_append.i 92 = some (92, .iadd, 1, 0, 0, 0) := rfl
theorem zh_X1_append_93 : zfe zqX1_append.i 93 = some (93, .putfield 29, 3, 1, 2, 0) := rfl
theorem zh_X1_append_96 : zfe zqX1_append.i 96 = some (96, .iconst 1, 1, 0, 0, 0) := rfl
theorem zh_X1_append_97 : zfe zqX1_append.i 97 = some (97, .ireturn, 1, 0, 0, 0) := rfl
theorem ze_X1_append_0 {d : Nat} {f : zF} {m : zM} {x0 : Nat} {a1 a2 a3 a4 : Value} : zex zTb d zqX1_append 0 [.ref x0, a1, a2, a3, a4] [] f m = if zco (f x0) 1 2 = true then zex zTb d zqX1_append 4 [.ref x0, a1, a2, a3, a4] [zcf (f x0) 2] f m else none := (zxl_go (x := (1, [.ref x0, a1, a2, a3, a4], [.ref x0], f, m)) zh_X1_append_0 rfl).trans ((zx_getfield zh_X1_append_1))
theorem ze_X1_append_4 {d : Nat} {f : zF} {m : zM} {x0 : Nat} {a1 a2 a3 a4 : Value} {y0 : Int32} : zex zTb d zqX1_append 4 [.ref x0, a1, a2, a3, a4] [.int y0] f m = if zco (f x0) 1 0 = true then zex zTb d zqX1_append 8 [.ref x0, a1, a2, a3, a4] [zcf (f x0) 0, .int y0] f m else none := (zxl_go (x := (5, [.ref x0, a1, a2, a3, a4], [.ref x0, .int y0], f, m)) zh_X1_append_4 rfl).trans ((zx_getfield zh_X1_append_5))
theorem ze_X1_append_8 {d : Nat} {f : zF} {m : zM} {a0 a1 a2 a3 a4 : Value} {y0 : Int32} {y1 : Nat} : zex zTb d zqX1_append 8 [a0, a1, a2, a3, a4] [.ref y1, .int y0] f m = if zisa (f y1) = true then zex zTb d zqX1_append 9 [a0, a1, a2, a3, a4] [.int (Int32.ofNat (zln (f y1))), .int y0] f m else none := (zx_alen zh_X1_append_8)
theorem ze_X1_append_9 {d : Nat} {f : zF} {m : zM} {a0 a1 a2 a3 a4 : Value} {y0 y1 : Int32} : zex zTb d zqX1_append 9 [a0, a1, a2, a3, a4] [.int y1, .int y0] f m = if zc2 .ge y0 y1 = true then zex zTb d zqX1_append 20 [a0, a1, a2, a3, a4] [] f m else zex zTb d zqX1_append 12 [a0, a1, a2, a3, a4] [] f m := (zx_icmp (tgt := 20) zh_X1_append_9 rfl)
theorem ze_X1_append_12 {d : Nat} {f : zF} {m : zM} {x0 : Nat} {x1 : Int64} {a2 a3 a4 : Value} : zex zTb d zqX1_append 12 [.ref x0, .long x1, a2, a3, a4] [] f m = if zisc (f x0) 1 = true then zcal zTb (zrun zTb d 7 [.ref x0, .long x1] f m) d zqX1_append 14 17 [.ref x0, .long x1, a2, a3, a4] [] else none := (zxl_go (x := (13, [.ref x0, .long x1, a2, a3, a4], [.ref x0], f, m)) zh_X1_append_12 rfl).trans ((zxl_go (x := (14, [.ref x0, .long x1, a2, a3, a4], [.long x1, .ref x0], f, m)) zh_X1_append_13 rfl).trans ((zx_virtual4 zh_X1_append_14 (Nat.le_of_ble_eq_true rfl) rfl rfl (Nat.le_of_ble_eq_true rfl))))
theorem ze_X1_append_17 {d : Nat} {f : zF} {m : zM} {a0 a1 a2 a3 a4 : Value} {y0 : Int32} : zex zTb d zqX1_append 17 [a0, a1, a2, a3, a4] [.int y0] f m = if zc1 .eq y0 = true then zex zTb d zqX1_append 22 [a0, a1, a2, a3, a4] [] f m else zex zTb d zqX1_append 20 [a0, a1, a2, a3, a4] [] f m := (zx_if (tgt := 22) zh_X1_append_17 rfl)
theorem ze_X1_append_20 {d : Nat} {f : zF} {m : zM} {a0 a1 a2 a3 a4 : Value} : zex zTb d zqX1_append 20 [a0, a1, a2, a3, a4] [] f m = some (.inl (some (.int (I 0))), f, m) := (zx_iconst zh_X1_append_20).trans ((zx_iret zh_X1_append_21 (by first | rfl | decide)))
theorem ze_X1_append_22 {d : Nat} {f : zF} {m : zM} {x0 : Nat} {a1 a2 a3 a4 : Value} : zex zTb d zqX1_append 22 [.ref x0, a1, a2, a3, a4] [] f m = if zco (f x0) 1 4 = true then zex zTb d zqX1_append 26 [.ref x0, a1, a2, a3, a4] [zcf (f x0) 4] f m else none := (zxl_go (x := (23, [.ref x0, a1, a2, a3, a4], [.ref x0], f, m)) zh_X1_append_22 rfl).trans ((zx_getfield zh_X1_append_23))
theorem ze_X1_append_26 {d : Nat} {f : zF} {m : zM} {x0 y0 : Nat} {a1 a2 a3 a4 : Value} : zex zTb d zqX1_append 26 [.ref x0, a1, a2, a3, a4] [.ref y0] f m = if zco (f x0) 1 3 = true then zex zTb d zqX1_append 30 [.ref x0, a1, a2, a3, a4] [zcf (f x0) 3, .ref y0] f m else none := (zxl_go (x := (27, [.ref x0, a1, a2, a3, a4], [.ref x0, .ref y0], f, m)) zh_X1_append_26 rfl).trans ((zx_getfield zh_X1_append_27))
theorem ze_X1_append_30 {d : Nat} {f : zF} {m : zM} {a0 a1 a2 a3 a4 : Value} {y0 y1 : Nat} : zex zTb d zqX1_append 30 [a0, a1, a2, a3, a4] [.ref y1, .ref y0] f m = if zisc (f y0) 3 = true then zcal zTb (zrun zTb d 27 [.ref y0, .ref y1] f m) d zqX1_append 30 33 [a0, a1, a2, a3, a4] [] else none := (zx_virtual4 zh_X1_append_30 (Nat.le_of_ble_eq_true rfl) rfl rfl (Nat.le_of_ble_eq_true rfl))
theorem ze_X1_append_33 {d : Nat} {f : zF} {m : zM} {x0 : Nat} {a1 a2 a3 a4 : Value} : zex zTb d zqX1_append 33 [.ref x0, a1, a2, a3, a4] [] f m = if zco (f x0) 1 4 = true then zex zTb d zqX1_append 37 [.ref x0, a1, a2, a3, a4] [zcf (f x0) 4] f m else none := (zxl_go (x := (34, [.ref x0, a1, a2, a3, a4], [.ref x0], f, m)) zh_X1_append_33 rfl).trans ((zx_getfield zh_X1_append_34))
theorem ze_X1_append_37 {d : Nat} {f : zF} {m : zM} {a0 a2 a3 a4 : Value} {x1 : Int64} {y0 : Nat} : zex zTb d zqX1_append 37 [a0, .long x1, a2, a3, a4] [.ref y0] f m = if zisc (f y0) 3 = true then zcal zTb (zrun zTb d 28 [.ref y0, .long x1] f m) d zqX1_append 38 41 [a0, .long x1, a2, a3, a4] [] else none := (zxl_go (x := (38, [a0, .long x1, a2, a3, a4], [.long x1, .ref y0], f, m)) zh_X1_append_37 rfl).trans ((zx_virtual4 zh_X1_append_38 (Nat.le_of_ble_eq_true rfl) rfl rfl (Nat.le_of_ble_eq_true rfl)))
theorem ze_X1_append_41 {d : Nat} {f : zF} {m : zM} {a0 a1 a2 a3 a4 : Value} {y0 : Int32} : zex zTb d zqX1_append 41 [a0, a1, a2, a3, a4] [.int y0] f m = if zc1 .ne y0 = true then zex zTb d zqX1_append 46 [a0, a1, a2, a3, a4] [] f m else zex zTb d zqX1_append 44 [a0, a1, a2, a3, a4] [] f m := (zx_if (tgt := 46) zh_X1_append_41 rfl)
theorem ze_X1_append_44 {d : Nat} {f : zF} {m : zM} {a0 a1 a2 a3 a4 : Value} : zex zTb d zqX1_append 44 [a0, a1, a2, a3, a4] [] f m = some (.inl (some (.int (I 0))), f, m) := (zx_iconst zh_X1_append_44).trans ((zx_iret zh_X1_append_45 (by first | rfl | decide)))
theorem ze_X1_append_46 {d : Nat} {f : zF} {m : zM} {x0 : Nat} {a1 a2 a3 a4 : Value} : zex zTb d zqX1_append 46 [.ref x0, a1, a2, a3, a4] [] f m = if zco (f x0) 1 3 = true then zex zTb d zqX1_append 50 [.ref x0, a1, a2, a3, a4] [zcf (f x0) 3] f m else none := (zxl_go (x := (47, [.ref x0, a1, a2, a3, a4], [.ref x0], f, m)) zh_X1_append_46 rfl).trans ((zx_getfield zh_X1_append_47))
theorem ze_X1_append_50 {d : Nat} {f : zF} {m : zM} {x0 y0 : Nat} {a1 a2 a3 a4 : Value} : zex zTb d zqX1_append 50 [.ref x0, a1, a2, a3, a4] [.ref y0] f m = if zco (f x0) 1 4 = true then zex zTb d zqX1_append 57 [.ref x0, a1, a2, (zclr a3), .ref y0] [zcf (f x0) 4, .ref x0] f m else none := (zxl_go (x := (52, [.ref x0, a1, a2, (zclr a3), .ref y0], [], f, m)) zh_X1_append_50 rfl).trans ((zxl_go (x := (53, [.ref x0, a1, a2, (zclr a3), .ref y0], [.ref x0], f, m)) zh_X1_append_52 rfl).trans ((zxl_go (x := (54, [.ref x0, a1, a2, (zclr a3), .ref y0], [.ref x0, .ref x0], f, m)) zh_X1_append_53 rfl).trans ((zx_getfield zh_X1_append_54))))
theorem ze_X1_append_57 {d : Nat} {f : zF} {m : zM} {a0 a1 a2 a3 a4 : Value} {y0 y1 : Nat} : zex zTb d zqX1_append 57 [a0, a1, a2, a3, a4] [.ref y1, .ref y0] f m = if (zco (f y0) 1 3 && zok (zfty 1 3) (.ref y1)) = true then zex zTb d zqX1_append 60 [a0, a1, a2, a3, a4] [] (zup f y0 (zcs (f y0) 3 (.ref y1))) m else none := (zx_putfield zh_X1_append_57)
theorem ze_X1_append_60 {d : Nat} {f : zF} {m : zM} {x0 x4 : Nat} {a1 a2 a3 : Value} : zex zTb d zqX1_append 60 [.ref x0, a1, a2, a3, .ref x4] [] f m = if (zco (f x0) 1 4 && zok (zfty 1 4) (.ref x4)) = true then zex zTb d zqX1_append 66 [.ref x0, a1, a2, a3, .ref x4] [] (zup f x0 (zcs (f x0) 4 (.ref x4))) m else none := (zxl_go (x := (61, [.ref x0, a1, a2, a3, .ref x4], [.ref x0], f, m)) zh_X1_append_60 rfl).trans ((zxl_go (x := (63, [.ref x0, a1, a2, a3, .ref x4], [.ref x4, .ref x0], f, m)) zh_X1_append_61 rfl).trans ((zx_putfield zh_X1_append_63)))
theorem ze_X1_append_66 {d : Nat} {f : zF} {m : zM} {x0 : Nat} {a1 a2 a3 a4 : Value} : zex zTb d zqX1_append 66 [.ref x0, a1, a2, a3, a4] [] f m = if zco (f x0) 1 0 = true then zex zTb d zqX1_append 70 [.ref x0, a1, a2, a3, a4] [zcf (f x0) 0] f m else none := (zxl_go (x := (67, [.ref x0, a1, a2, a3, a4], [.ref x0], f, m)) zh_X1_append_66 rfl).trans ((zx_getfield zh_X1_append_67))
theorem ze_X1_append_70 {d : Nat} {f : zF} {m : zM} {x0 y0 : Nat} {a1 a2 a3 a4 : Value} : zex zTb d zqX1_append 70 [.ref x0, a1, a2, a3, a4] [.ref y0] f m = if zco (f x0) 1 2 = true then zex zTb d zqX1_append 74 [.ref x0, a1, a2, a3, a4] [zcf (f x0) 2, .ref y0] f m else none := (zxl_go (x := (71, [.ref x0, a1, a2, a3, a4], [.ref x0, .ref y0], f, m)) zh_X1_append_70 rfl).trans ((zx_getfield zh_X1_append_71))
theorem ze_X1_append_74 {d : Nat} {f : zF} {m : zM} {a0 a2 a3 a4 : Value} {x1 : Int64} {y0 : Nat} {y1 : Int32} : zex zTb d zqX1_append 74 [a0, .long x1, a2, a3, a4] [.int y1, .ref y0] f m = if zrl (f y0) y1 = true then zex zTb d zqX1_append 76 [a0, .long x1, a2, a3, a4] [] (zup f y0 (zwl (f y0) y1.toNatClampNeg x1)) m else none := (zxl_go (x := (75, [a0, .long x1, a2, a3, a4], [.long x1, .int y1, .ref y0], f, m)) zh_X1_append_74 rfl).trans ((zx_lastore zh_X1_append_75))
theorem ze_X1_append_76 {d : Nat} {f : zF} {m : zM} {x0 : Nat} {a1 a2 a3 a4 : Value} : zex zTb d zqX1_append 76 [.ref x0, a1, a2, a3, a4] [] f m = if zco (f x0) 1 1 = true then zex zTb d zqX1_append 80 [.ref x0, a1, a2, a3, a4] [zcf (f x0) 1] f m else none := (zxl_go (x := (77, [.ref x0, a1, a2, a3, a4], [.ref x0], f, m)) zh_X1_append_76 rfl).trans ((zx_getfield zh_X1_append_77))
theorem ze_X1_append_80 {d : Nat} {f : zF} {m : zM} {x0 y0 : Nat} {a1 a2 a3 a4 : Value} : zex zTb d zqX1_append 80 [.ref x0, a1, a2, a3, a4] [.ref y0] f m = if zco (f x0) 1 2 = true then zex zTb d zqX1_append 84 [.ref x0, a1, a2, a3, a4] [zcf (f x0) 2, .ref y0] f m else none := (zxl_go (x := (81, [.ref x0, a1, a2, a3, a4], [.ref x0, .ref y0], f, m)) zh_X1_append_80 rfl).trans ((zx_getfield zh_X1_append_81))
theorem ze_X1_append_84 {d : Nat} {f : zF} {m : zM} {a0 a1 a2 a4 : Value} {x3 y1 : Int32} {y0 : Nat} : zex zTb d zqX1_append 84 [a0, a1, a2, .int x3, a4] [.int y1, .ref y0] f m = if zri (f y0) 2 y1 = true then zex zTb d zqX1_append 86 [a0, a1, a2, .int x3, a4] [] (zup f y0 (zwi (f y0) 2 y1.toNatClampNeg x3)) m else none := (zxl_go (x := (85, [a0, a1, a2, .int x3, a4], [.int x3, .int y1, .ref y0], f, m)) zh_X1_append_84 rfl).trans ((zx_bastore zh_X1_append_85))
theorem ze_X1_append_86 {d : Nat} {f : zF} {m : zM} {x0 : Nat} {a1 a2 a3 a4 : Value} : zex zTb d zqX1_append 86 [.ref x0, a1, a2, a3, a4] [] f m = if zco (f x0) 1 2 = true then zex zTb d zqX1_append 91 [.ref x0, a1, a2, a3, a4] [zcf (f x0) 2, .ref x0] f m else none := (zxl_go (x := (87, [.ref x0, a1, a2, a3, a4], [.ref x0], f, m)) zh_X1_append_86 rfl).trans ((zxl_go (x := (88, [.ref x0, a1, a2, a3, a4], [.ref x0, .ref x0], f, m)) zh_X1_append_87 rfl).trans ((zx_getfield zh_X1_append_88)))
theorem ze_X1_append_91 {d : Nat} {f : zF} {m : zM} {a0 a1 a2 a3 a4 : Value} {y0 : Nat} {y1 : Int32} : zex zTb d zqX1_append 91 [a0, a1, a2, a3, a4] [.int y1, .ref y0] f m = if (zco (f y0) 1 2 && zok (zfty 1 2) (.int (y1 + (I 1)))) = true then zex zTb d zqX1_append 96 [a0, a1, a2, a3, a4] [] (zup f y0 (zcs (f y0) 2 (.int (y1 + (I 1))))) m else none := (zx_iconst zh_X1_append_91).trans ((zxl_go (x := (93, [a0, a1, a2, a3, a4], [.int (y1 + (I 1)), .ref y0], f, m)) zh_X1_append_92 rfl).trans ((zx_putfield zh_X1_append_93)))
theorem ze_X1_append_96 {d : Nat} {f : zF} {m : zM} {a0 a1 a2 a3 a4 : Value} : zex zTb d zqX1_append 96 [a0, a1, a2, a3, a4] [] f m = some (.inl (some (.int (I 1))), f, m) := (zx_iconst zh_X1_append_96).trans ((zx_iret zh_X1_append_97 (by first | rfl | decide)))
-- X1_holds
theorem zh_X1_holds_0 : zfe zqX1_holds.i 0 = some (0, .iconst 0, 1, 0, 0, 0) := rfl
theorem zh_X1_holds_1 : zfe zqX1_holds.i 1 = some (1, .istore_n 3, 1, 0, 0, 0) := rfl
theorem zh_X1_holds_2 : zfe zqX1_holds.i 2 = some (2, .iload_n 3, 1, 0, 0, 0) := rfl
theorem zh_X1_holds_3 : zfe zqX1_holds.i 3 = some (3, .aload_n 0, 1, 0, 0, 0) := rfl
theorem zh_X1_holds_4 : zfe zqX1_holds.i 4 = some (4, .getfield 29, 3, 1, 2, 0) := rfl
theorem zh_X1_holds_7 : zfe zqX1_holds.i 7 = some (7, .if_icmp .ge 22, 3, 0, 0, 0) := rfl
theorem zh_X1_holds_10 : zfe zqX1_holds.i 10 = some (10, .aload_n 0, 1, 0, 0, 0) := rfl
theorem zh_X1_holds_11 : zfe zqX1_holds.i 11 = some (11, .getfield 9, 3, 1, 0, 0) := rfl
theorem zh_X1_holds_14 : zfe zqX1_holds.i 14 = some (14, .iload_n 3, 1, 0, 0, 0) := rfl
theorem zh_X1_holds_15 : zfe zqX1_holds.i 15 = some (15, .laload, 1, 0, 0, 0) := rfl
theorem zh_X1_holds_16 : zfe zqX1_holds.i 16 = some (16, .lload_n 1, 1, 0, 0, 0) := rfl
theorem zh_X1_holds_17 : zfe zqX1_holds.i 17 = some (17, .lcmp, 1, 0, 0, 0) := rfl
theorem zh_X1_holds_18 : zfe zqX1_holds.i 18 = some (18, .ifCond .ne 5, 3, 0, 0, 0) := rfl
theorem zh_X1_holds_21 : zfe zqX1_holds.i 21 = some (21, .iconst 1, 1, 0, 0, 0) := rfl
theorem zh_X1_holds_22 : zfe zqX1_holds.i 22 = some (22, .ireturn, 1, 0, 0, 0) := rfl
theorem zh_X1_holds_23 : zfe zqX1_holds.i 23 = some (23, .iinc 3 1, 3, 0, 0, 0) := rfl
theorem zh_X1_holds_26 : zfe zqX1_holds.i 26 = some (26, .goto (-24), 3, 0, 0, 0) := rfl
theorem zh_X1_holds_29 : zfe zqX1_holds.i 29 = some (29, .iconst 0, 1, 0, 0, 0) := rfl
theorem zh_X1_holds_30 : zfe zqX1_holds.i 30 = some (30, .ireturn, 1, 0, 0, 0) := rfl
theorem ze_X1_holds_0 {d : Nat} {f : zF} {m : zM} {a0 a1 a2 a3 : Value} : zex zTb d zqX1_holds 0 [a0, a1, a2, a3] [] f m = zex zTb d zqX1_holds 2 [a0, a1, (zclr a2), .int (I 0)] [] f m := (zx_iconst zh_X1_holds_0).trans ((zxl_go (x := (2, [a0, a1, (zclr a2), .int (I 0)], [], f, m)) zh_X1_holds_1 rfl))
theorem ze_X1_holds_2 {d : Nat} {f : zF} {m : zM} {x0 : Nat} {a1 a2 : Value} {x3 : Int32} : zex zTb d zqX1_holds 2 [.ref x0, a1, a2, .int x3] [] f m = if zco (f x0) 1 2 = true then zex zTb d zqX1_holds 7 [.ref x0, a1, a2, .int x3] [zcf (f x0) 2, .int x3] f m else none := (zxl_go (x := (3, [.ref x0, a1, a2, .int x3], [.int x3], f, m)) zh_X1_holds_2 rfl).trans ((zxl_go (x := (4, [.ref x0, a1, a2, .int x3], [.ref x0, .int x3], f, m)) zh_X1_holds_3 rfl).trans ((zx_getfield zh_X1_holds_4)))
theorem ze_X1_holds_7 {d : Nat} {f : zF} {m : zM} {a0 a1 a2 a3 : Value} {y0 y1 : Int32} : zex zTb d zqX1_holds 7 [a0, a1, a2, a3] [.int y1, .int y0] f m = if zc2 .ge y0 y1 = true then zex zTb d zqX1_holds 29 [a0, a1, a2, a3] [] f m else zex zTb d zqX1_holds 10 [a0, a1, a2, a3] [] f m := (zx_icmp (tgt := 29) zh_X1_holds_7 rfl)
theorem ze_X1_holds_10 {d : Nat} {f : zF} {m : zM} {x0 : Nat} {a1 a2 a3 : Value} : zex zTb d zqX1_holds 10 [.ref x0, a1, a2, a3] [] f m = if zco (f x0) 1 0 = true then zex zTb d zqX1_holds 14 [.ref x0, a1, a2, a3] [zcf (f x0) 0] f m else none := (zxl_go (x := (11, [.ref x0, a1, a2, a3], [.ref x0], f, m)) zh_X1_holds_10 rfl).trans ((zx_getfield zh_X1_holds_11))
theorem ze_X1_holds_14 {d : Nat} {f : zF} {m : zM} {a0 a1 a2 : Value} {x3 : Int32} {y0 : Nat} : zex zTb d zqX1_holds 14 [a0, a1, a2, .int x3] [.ref y0] f m = if zrl (f y0) x3 = true then zex zTb d zqX1_holds 16 [a0, a1, a2, .int x3] [.long (zgl (f y0) x3.toNatClampNeg)] f m else none := (zxl_go (x := (15, [a0, a1, a2, .int x3], [.int x3, .ref y0], f, m)) zh_X1_holds_14 rfl).trans ((zx_laload zh_X1_holds_15))
theorem ze_X1_holds_16 {d : Nat} {f : zF} {m : zM} {a0 a2 a3 : Value} {x1 y0 : Int64} : zex zTb d zqX1_holds 16 [a0, .long x1, a2, a3] [.long y0] f m = if zc1 .ne (lg_cmp y0 x1) = true then zex zTb d zqX1_holds 23 [a0, .long x1, a2, a3] [] f m else zex zTb d zqX1_holds 21 [a0, .long x1, a2, a3] [] f m := (zxl_go (x := (17, [a0, .long x1, a2, a3], [.long x1, .long y0], f, m)) zh_X1_holds_16 rfl).trans ((zxl_go (x := (18, [a0, .long x1, a2, a3], [.int (lg_cmp y0 x1)], f, m)) zh_X1_holds_17 rfl).trans ((zx_if (tgt := 23) zh_X1_holds_18 rfl)))
theorem ze_X1_holds_21 {d : Nat} {f : zF} {m : zM} {a0 a1 a2 a3 : Value} : zex zTb d zqX1_holds 21 [a0, a1, a2, a3] [] f m = some (.inl (some (.int (I 1))), f, m) := (zx_iconst zh_X1_holds_21).trans ((zx_iret zh_X1_holds_22 (by first | rfl | decide)))
theorem ze_X1_holds_23 {d : Nat} {f : zF} {m : zM} {a0 a1 a2 : Value} {x3 : Int32} : zex zTb d zqX1_holds 23 [a0, a1, a2, .int x3] [] f m = zex zTb d zqX1_holds 2 [a0, a1, (zclr a2), .int (x3 + I 1)] [] f m := (zxl_go (x := (26, [a0, a1, (zclr a2), .int (x3 + I 1)], [], f, m)) zh_X1_holds_23 rfl).trans ((zx_goto zh_X1_holds_26 rfl))
theorem ze_X1_holds_29 {d : Nat} {f : zF} {m : zM} {a0 a1 a2 a3 : Value} : zex zTb d zqX1_holds 29 [a0, a1, a2, a3] [] f m = some (.inl (some (.int (I 0))), f, m) := (zx_iconst zh_X1_holds_29).trans ((zx_iret zh_X1_holds_30 (by first | rfl | decide)))
-- X1_removeLast
theorem zh_X1_removeLast_0 : zfe zqX1_removeLast.i 0 = some (0, .aload_n 0, 1, 0, 0, 0) := rfl
theorem zh_X1_removeLast_1 : zfe zqX1_removeLast.i 1 = some (1, .dup, 1, 0, 0, 0) := rfl
theorem zh_X1_removeLast_2 : zfe zqX1_removeLast.i 2 = some (2, .getfield 29, 3, 1, 2, 0) := rfl
theorem zh_X1_removeLast_5 : zfe zqX1_removeLast.i 5 = some (5, .aload_n 0, 1, 0, 0, 0) := rfl
theorem zh_X1_removeLast_6 : zfe zqX1_removeLast.i 6 = some (6, .getfield 29, 3, 1, 2, 0) := rfl
theorem zh_X1_removeLast_9 : zfe zqX1_removeLast.i 9 = some (9, .ifCond .le 7, 3, 0, 0, 0) := rfl
theorem zh_X1_removeLast_12 : zfe zqX1_removeLast.i 12 = some (12, .iconst 1, 1, 0, 0, 0) := rfl
theorem zh_X1_removeLast_13 : zfe zqX1_removeLast.i 13 = some (13, .goto 4, 3, 0, 0, 0) := rfl
theorem zh_X1_removeLast_16 : zfe zqX1_removeLast.i 16 = some (16, .iconst 0, 1, 0, 0, 0) := rfl
theorem zh_X1_removeLast_17 : zfe zqX1_removeLast.i 17 = some (17, .isub, 1, 0, 0, 0) := rfl
theorem zh_X1_removeLast_18 : zfe zqX1_removeLast.i 18 = some (18, .putfield 29, 3, 1, 2, 0) := rfl
theorem zh_X1_removeLast_21 : zfe zqX1_removeLast.i 21 = some (21, .aload_n 0, 1, 0, 0, 0) := rfl
theorem zh_X1_removeLast_22 : zfe zqX1_removeLast.i 22 = some (22, .getfield 22, 3, 1, 3, 0) := rfl
theorem zh_X1_removeLast_25 : zfe zqX1_removeLast.i 25 = some (25, .invokevirtual 44, 3, 26, 1, 3) := rfl
theorem zh_X1_removeLast_28 : zfe zqX1_removeLast.i 28 = some (28, .iconst 0, 1, 0, 0, 0) := rfl
theorem zh_X1_removeLast_29 : zfe zqX1_removeLast.i 29 = some (29, .istore_n 1, 1, 0, 0, 0) := rfl
theorem zh_X1_removeLast_30 : zfe zqX1_removeLast.i 30 = some (30, .iload_n 1, 1, 0, 0, 0) := rfl
theorem zh_X1_removeLast_31 : zfe zqX1_removeLast.i 31 = some (31, .aload_n 0, 1, 0, 0, 0) := rfl
theorem zh_X1_removeLast_32 : zfe zqX1_removeLast.i 32 = some (32, .getfield 29, 3, 1, 2, 0) := rfl
theorem zh_X1_removeLast_35 : zfe zqX1_removeLast.i 35 = some (35, .if_icmp .ge 23, 3, 0, 0, 0) := rfl
theorem zh_X1_removeLast_38 : zfe zqX1_removeLast.i 38 = some (38, .aload_n 0, 1, 0, 0, 0) := rfl
theorem zh_X1_removeLast_39 : zfe zqX1_removeLast.i 39 = some (39, .getfield 22, 3, 1, 3, 0) := rfl
theorem zh_X1_removeLast_42 : zfe zqX1_removeLast.i 42 = some (42, .aload_n 0, 1, 0, 0, 0) := rfl
theorem zh_X1_removeLast_43 : zfe zqX1_removeLast.i 43 = some (43, .getfield 9, 3, 1, 0, 0) := rfl
theorem zh_X1_removeLast_46 : zfe zqX1_removeLast.i 46 = some (46, .iload_n 1, 1, 0, 0, 0) := rfl
theorem zh_X1_removeLast_47 : zfe zqX1_removeLast.i 47 = some (47, .laload, 1, 0, 0, 0) := rfl
theorem zh_X1_removeLast_48 : zfe zqX1_removeLast.i 48 = some (48, .invokevirtual 41, 3, 28, 2, 3) := rfl
theorem zh_X1_removeLast_51 : zfe zqX1_removeLast.i 51 = some (51, .pop, 1, 0, 0, 0) := rfl
theorem zh_X1_removeLast_52 : zfe zqX1_removeLast.i 52 = some (52, .iinc 1 1, 3, 0, 0, 0) := rfl
theorem zh_X1_removeLast_55 : zfe zqX1_removeLast.i 55 = some (55, .goto (-25), 3, 0, 0, 0) := rfl
theorem zh_X1_removeLast_58 : zfe zqX1_removeLast.i 58 = some (58, .return_, 1, 0, 0, 0) := rfl
theorem ze_X1_removeLast_0 {d : Nat} {f : zF} {m : zM} {x0 : Nat} {a1 : Value} : zex zTb d zqX1_removeLast 0 [.ref x0, a1] [] f m = if zco (f x0) 1 2 = true then zex zTb d zqX1_removeLast 5 [.ref x0, a1] [zcf (f x0) 2, .ref x0] f m else none := (zxl_go (x := (1, [.ref x0, a1], [.ref x0], f, m)) zh_X1_removeLast_0 rfl).trans ((zxl_go (x := (2, [.ref x0, a1], [.ref x0, .ref x0], f, m)) zh_X1_removeLast_1 rfl).trans ((zx_getfield zh_X1_removeLast_2)))
theorem ze_X1_removeLast_5 {d : Nat} {f : zF} {m : zM} {x0 y0 : Nat} {a1 : Value} {y1 : Int32} : zex zTb d zqX1_removeLast 5 [.ref x0, a1] [.int y1, .ref y0] f m = if zco (f x0) 1 2 = true then zex zTb d zqX1_removeLast 9 [.ref x0, a1] [zcf (f x0) 2, .int y1, .ref y0] f m else none := (zxl_go (x := (6, [.ref x0, a1], [.ref x0, .int y1, .ref y0], f, m)) zh_X1_removeLast_5 rfl).trans ((zx_getfield zh_X1_removeLast_6))
theorem ze_X1_removeLast_9 {d : Nat} {f : zF} {m : zM} {a0 a1 : Value} {y0 : Nat} {y1 y2 : Int32} : zex zTb d zqX1_removeLast 9 [a0, a1] [.int y2, .int y1, .ref y0] f m = if zc1 .le y2 = true then zex zTb d zqX1_removeLast 16 [a0, a1] [.int y1, .ref y0] f m else zex zTb d zqX1_removeLast 12 [a0, a1] [.int y1, .ref y0] f m := (zx_if (tgt := 16) zh_X1_removeLast_9 rfl)
theorem ze_X1_removeLast_12 {d : Nat} {f : zF} {m : zM} {a0 a1 : Value} {y0 : Nat} {y1 : Int32} : zex zTb d zqX1_removeLast 12 [a0, a1] [.int y1, .ref y0] f m = if (zco (f y0) 1 2 && zok (zfty 1 2) (.int (y1 - (I 1)))) = true then zex zTb d zqX1_removeLast 21 [a0, a1] [] (zup f y0 (zcs (f y0) 2 (.int (y1 - (I 1))))) m else none := (zx_iconst zh_X1_removeLast_12).trans ((zx_goto zh_X1_removeLast_13 rfl).trans ((zxl_go (x := (18, [a0, a1], [.int (y1 - (I 1)), .ref y0], f, m)) zh_X1_removeLast_17 rfl).trans ((zx_putfield zh_X1_removeLast_18))))
theorem ze_X1_removeLast_16 {d : Nat} {f : zF} {m : zM} {a0 a1 : Value} {y0 : Nat} {y1 : Int32} : zex zTb d zqX1_removeLast 16 [a0, a1] [.int y1, .ref y0] f m = if (zco (f y0) 1 2 && zok (zfty 1 2) (.int (y1 - (I 0)))) = true then zex zTb d zqX1_removeLast 21 [a0, a1] [] (zup f y0 (zcs (f y0) 2 (.int (y1 - (I 0))))) m else none := (zx_iconst zh_X1_removeLast_16).trans ((zxl_go (x := (18, [a0, a1], [.int (y1 - (I 0)), .ref y0], f, m)) zh_X1_removeLast_17 rfl).trans ((zx_putfield zh_X1_removeLast_18)))
theorem ze_X1_removeLast_21 {d : Nat} {f : zF} {m : zM} {x0 : Nat} {a1 : Value} : zex zTb d zqX1_removeLast 21 [.ref x0, a1] [] f m = if zco (f x0) 1 3 = true then zex zTb d zqX1_removeLast 25 [.ref x0, a1] [zcf (f x0) 3] f m else none := (zxl_go (x := (22, [.ref x0, a1], [.ref x0], f, m)) zh_X1_removeLast_21 rfl).trans ((zx_getfield zh_X1_removeLast_22))
theorem ze_X1_removeLast_25 {d : Nat} {f : zF} {m : zM} {a0 a1 : Value} {y0 : Nat} : zex zTb d zqX1_removeLast 25 [a0, a1] [.ref y0] f m = if zisc (f y0) 3 = true then zcal zTb (zrun zTb d 26 [.ref y0] f m) d zqX1_removeLast 25 28 [a0, a1] [] else none := (zx_virtual4 zh_X1_removeLast_25 (Nat.le_of_ble_eq_true rfl) rfl rfl (Nat.le_of_ble_eq_true rfl))
theorem ze_X1_removeLast_28 {d : Nat} {f : zF} {m : zM} {a0 a1 : Value} : zex zTb d zqX1_removeLast 28 [a0, a1] [] f m = zex zTb d zqX1_removeLast 30 [(zclr a0), .int (I 0)] [] f m := (zx_iconst zh_X1_removeLast_28).trans ((zxl_go (x := (30, [(zclr a0), .int (I 0)], [], f, m)) zh_X1_removeLast_29 rfl))
theorem ze_X1_removeLast_30 {d : Nat} {f : zF} {m : zM} {x0 : Nat} {x1 : Int32} : zex zTb d zqX1_removeLast 30 [.ref x0, .int x1] [] f m = if zco (f x0) 1 2 = true then zex zTb d zqX1_removeLast 35 [.ref x0, .int x1] [zcf (f x0) 2, .int x1] f m else none := (zxl_go (x := (31, [.ref x0, .int x1], [.int x1], f, m)) zh_X1_removeLast_30 rfl).trans ((zxl_go (x := (32, [.ref x0, .int x1], [.ref x0, .int x1], f, m)) zh_X1_removeLast_31 rfl).trans ((zx_getfield zh_X1_removeLast_32)))
theorem ze_X1_removeLast_35 {d : Nat} {f : zF} {m : zM} {a0 a1 : Value} {y0 y1 : Int32} : zex zTb d zqX1_removeLast 35 [a0, a1] [.int y1, .int y0] f m = if zc2 .ge y0 y1 = true then zex zTb d zqX1_removeLast 58 [a0, a1] [] f m else zex zTb d zqX1_removeLast 38 [a0, a1] [] f m := (zx_icmp (tgt := 58) zh_X1_removeLast_35 rfl)
theorem ze_X1_removeLast_38 {d : Nat} {f : zF} {m : zM} {x0 : Nat} {a1 : Value} : zex zTb d zqX1_removeLast 38 [.ref x0, a1] [] f m = if zco (f x0) 1 3 = true then zex zTb d zqX1_removeLast 42 [.ref x0, a1] [zcf (f x0) 3] f m else none := (zxl_go (x := (39, [.ref x0, a1], [.ref x0], f, m)) zh_X1_removeLast_38 rfl).trans ((zx_getfield zh_X1_removeLast_39))
theorem ze_X1_removeLast_42 {d : Nat} {f : zF} {m : zM} {x0 y0 : Nat} {a1 : Value} : zex zTb d zqX1_removeLast 42 [.ref x0, a1] [.ref y0] f m = if zco (f x0) 1 0 = true then zex zTb d zqX1_removeLast 46 [.ref x0, a1] [zcf (f x0) 0, .ref y0] f m else none := (zxl_go (x := (43, [.ref x0, a1], [.ref x0, .ref y0], f, m)) zh_X1_removeLast_42 rfl).trans ((zx_getfield zh_X1_removeLast_43))
theorem ze_X1_removeLast_46 {d : Nat} {f : zF} {m : zM} {a0 : Value} {x1 : Int32} {y0 y1 : Nat} : zex zTb d zqX1_removeLast 46 [a0, .int x1] [.ref y1, .ref y0] f m = if zrl (f y1) x1 = true then zex zTb d zqX1_removeLast 48 [a0, .int x1] [.long (zgl (f y1) x1.toNatClampNeg), .ref y0] f m else none := (zxl_go (x := (47, [a0, .int x1], [.int x1, .ref y1, .ref y0], f, m)) zh_X1_removeLast_46 rfl).trans ((zx_laload zh_X1_removeLast_47))
theorem ze_X1_removeLast_48 {d : Nat} {f : zF} {m : zM} {a0 a1 : Value} {y0 : Nat} {y1 : Int64} : zex zTb d zqX1_removeLast 48 [a0, a1] [.long y1, .ref y0] f m = if zisc (f y0) 3 = true then zcal zTb (zrun zTb d 28 [.ref y0, .long y1] f m) d zqX1_removeLast 48 51 [a0, a1] [] else none := (zx_virtual4 zh_X1_removeLast_48 (Nat.le_of_ble_eq_true rfl) rfl rfl (Nat.le_of_ble_eq_true rfl))
theorem ze_X1_removeLast_51 {d : Nat} {f : zF} {m : zM} {a0 : Value} {x1 y0 : Int32} : zex zTb d zqX1_removeLast 51 [a0, .int x1] [.int y0] f m = zex zTb d zqX1_removeLast 30 [(zclr a0), .int (x1 + I 1)] [] f m := (zxl_go (x := (52, [a0, .int x1], [], f, m)) zh_X1_removeLast_51 rfl).trans ((zxl_go (x := (55, [(zclr a0), .int (x1 + I 1)], [], f, m)) zh_X1_removeLast_52 rfl).trans ((zx_goto zh_X1_removeLast_55 rfl)))
theorem ze_X1_removeLast_58 {d : Nat} {f : zF} {m : zM} {a0 a1 : Value} : zex zTb d zqX1_removeLast 58 [a0, a1] [] f m = some (.inl none, f, m) := (zx_ret zh_X1_removeLast_58 rfl)
-- X1_tableOf
theorem zh_X1_tableOf_0 : zfe zqX1_tableOf.i 0 = some (0, .lconst 0, 1, 0, 0, 0) := rfl
theorem zh_X1_tableOf_1 : zfe zqX1_tableOf.i 1 = some (1, .lstore_n 2, 1, 0, 0, 0) := rfl
theorem zh_X1_tableOf_2 : zfe zqX1_tableOf.i 2 = some (2, .iconst 0, 1, 0, 0, 0) := rfl
theorem zh_X1_tableOf_3 : zfe zqX1_tableOf.i 3 = some (3, .istore 4, 2, 0, 0, 0) := rfl
theorem zh_X1_tableOf_5 : zfe zqX1_tableOf.i 5 = some (5, .iload 4, 2, 0, 0, 0) := rfl
theorem zh_X1_tableOf_7 : zfe zqX1_tableOf.i 7 = some (7, .aload_n 0, 1, 0, 0, 0) := rfl
theorem zh_X1_tableOf_8 : zfe zqX1_tableOf.i 8 = some (8, .getfield 29, 3, 1, 2, 0) := rfl
theorem zh_X1_tableOf_11 : zfe zqX1_tableOf.i 11 = some (11, .if_icmp .ge 37, 3, 0, 0, 0) := rfl
theorem zh_X1_tableOf_14 : zfe zqX1_tableOf.i 14 = some (14, .aload_n 0, 1, 0, 0, 0) := rfl
theorem zh_X1_tableOf_15 : zfe zqX1_tableOf.i 15 = some (15, .getfield 15, 3, 1, 1, 0) := rfl
theorem zh_X1_tableOf_18 : zfe zqX1_tableOf.i 18 = some (18, .iload 4, 2, 0, 0, 0) := rfl
theorem zh_X1_tableOf_20 : zfe zqX1_tableOf.i 20 = some (20, .baload, 1, 0, 0, 0) := rfl
theorem zh_X1_tableOf_21 : zfe zqX1_tableOf.i 21 = some (21, .iload_n 1, 1, 0, 0, 0) := rfl
theorem zh_X1_tableOf_22 : zfe zqX1_tableOf.i 22 = some (22, .if_icmp .ne 20, 3, 0, 0, 0) := rfl
theorem zh_X1_tableOf_25 : zfe zqX1_tableOf.i 25 = some (25, .lload_n 2, 1, 0, 0, 0) := rfl
theorem zh_X1_tableOf_26 : zfe zqX1_tableOf.i 26 = some (26, .aload_n 0, 1, 0, 0, 0) := rfl
theorem zh_X1_tableOf_27 : zfe zqX1_tableOf.i 27 = some (27, .getfield 22, 3, 1, 3, 0) := rfl
theorem zh_X1_tableOf_30 : zfe zqX1_tableOf.i 30 = some (30, .aload_n 0, 1, 0, 0, 0) := rfl
theorem zh_X1_tableOf_31 : zfe zqX1_tableOf.i 31 = some (31, .getfield 9, 3, 1, 0, 0) := rfl
theorem zh_X1_tableOf_34 : zfe zqX1_tableOf.i 34 = some (34, .iload 4, 2, 0, 0, 0) := rfl
theorem zh_X1_tableOf_36 : zfe zqX1_tableOf.i 36 = some (36, .laload, 1, 0, 0, 0) := rfl
theorem zh_X1_tableOf_37 : zfe zqX1_tableOf.i 37 = some (37, .invokevirtual 47, 3, 32, 2, 3) := rfl
theorem zh_X1_tableOf_40 : zfe zqX1_tableOf.i 40 = some (40, .lor, 1, 0, 0, 0) := rfl
theorem zh_X1_tableOf_41 : zfe zqX1_tableOf.i 41 = some (41, .lstore_n 2, 1, 0, 0, 0) := rfl
theorem zh_X1_tableOf_42 : zfe zqX1_tableOf.i 42 = some (42, .iinc 4 1, 3, 0, 0, 0) := rfl
theorem zh_X1_tableOf_45 : zfe zqX1_tableOf.i 45 = some (45, .goto (-40), 3, 0, 0, 0) := rfl
theorem zh_X1_tableOf_48 : zfe zqX1_tableOf.i 48 = some (48, .lload_n 2, 1, 0, 0, 0) := rfl
theorem zh_X1_tableOf_49 : zfe zqX1_tableOf.i 49 = some (49, .lreturn, 1, 0, 0, 0) := rfl
theorem ze_X1_tableOf_0 {d : Nat} {f : zF} {m : zM} {a0 a1 a2 a3 a4 : Value} : zex zTb d zqX1_tableOf 0 [a0, a1, a2, a3, a4] [] f m = zex zTb d zqX1_tableOf 5 [a0, (zclr a1), .long (J 0), .null, .int (I 0)] [] f m := (zx_lconst (v := 0) zh_X1_tableOf_0 (by decide)).trans ((zxl_go (x := (2, [a0, (zclr a1), .long (J 0), .null, a4], [], f, m)) zh_X1_tableOf_1 rfl).trans ((zx_iconst zh_X1_tableOf_2).trans ((zxl_go (x := (5, [a0, (zclr a1), .long (J 0), .null, .int (I 0)], [], f, m)) zh_X1_tableOf_3 rfl))))
theorem ze_X1_tableOf_5 {d : Nat} {f : zF} {m : zM} {x0 : Nat} {a1 a2 a3 : Value} {x4 : Int32} : zex zTb d zqX1_tableOf 5 [.ref x0, a1, a2, a3, .int x4] [] f m = if zco (f x0) 1 2 = true then zex zTb d zqX1_tableOf 11 [.ref x0, a1, a2, a3, .int x4] [zcf (f x0) 2, .int x4] f m else none := (zxl_go (x := (7, [.ref x0, a1, a2, a3, .int x4], [.int x4], f, m)) zh_X1_tableOf_5 rfl).trans ((zxl_go (x := (8, [.ref x0, a1, a2, a3, .int x4], [.ref x0, .int x4], f, m)) zh_X1_tableOf_7 rfl).trans ((zx_getfield zh_X1_tableOf_8)))
theorem ze_X1_tableOf_11 {d : Nat} {f : zF} {m : zM} {a0 a1 a2 a3 a4 : Value} {y0 y1 : Int32} : zex zTb d zqX1_tableOf 11 [a0, a1, a2, a3, a4] [.int y1, .int y0] f m = if zc2 .ge y0 y1 = true then zex zTb d zqX1_tableOf 48 [a0, a1, a2, a3, a4] [] f m else zex zTb d zqX1_tableOf 14 [a0, a1, a2, a3, a4] [] f m := (zx_icmp (tgt := 48) zh_X1_tableOf_11 rfl)
theorem ze_X1_tableOf_14 {d : Nat} {f : zF} {m : zM} {x0 : Nat} {a1 a2 a3 a4 : Value} : zex zTb d zqX1_tableOf 14 [.ref x0, a1, a2, a3, a4] [] f m = if zco (f x0) 1 1 = true then zex zTb d zqX1_tableOf 18 [.ref x0, a1, a2, a3, a4] [zcf (f x0) 1] f m else none := (zxl_go (x := (15, [.ref x0, a1, a2, a3, a4], [.ref x0], f, m)) zh_X1_tableOf_14 rfl).trans ((zx_getfield zh_X1_tableOf_15))
theorem ze_X1_tableOf_18 {d : Nat} {f : zF} {m : zM} {a0 a1 a2 a3 : Value} {x4 : Int32} {y0 : Nat} : zex zTb d zqX1_tableOf 18 [a0, a1, a2, a3, .int x4] [.ref y0] f m = if zri (f y0) 2 x4 = true then zex zTb d zqX1_tableOf 21 [a0, a1, a2, a3, .int x4] [.int (zgi (f y0) x4.toNatClampNeg)] f m else none := (zxl_go (x := (20, [a0, a1, a2, a3, .int x4], [.int x4, .ref y0], f, m)) zh_X1_tableOf_18 rfl).trans ((zx_baload zh_X1_tableOf_20))
theorem ze_X1_tableOf_21 {d : Nat} {f : zF} {m : zM} {a0 a2 a3 a4 : Value} {x1 y0 : Int32} : zex zTb d zqX1_tableOf 21 [a0, .int x1, a2, a3, a4] [.int y0] f m = if zc2 .ne y0 x1 = true then zex zTb d zqX1_tableOf 42 [a0, .int x1, a2, a3, a4] [] f m else zex zTb d zqX1_tableOf 25 [a0, .int x1, a2, a3, a4] [] f m := (zxl_go (x := (22, [a0, .int x1, a2, a3, a4], [.int x1, .int y0], f, m)) zh_X1_tableOf_21 rfl).trans ((zx_icmp (tgt := 42) zh_X1_tableOf_22 rfl))
theorem ze_X1_tableOf_25 {d : Nat} {f : zF} {m : zM} {x0 : Nat} {a1 a3 a4 : Value} {x2 : Int64} : zex zTb d zqX1_tableOf 25 [.ref x0, a1, .long x2, a3, a4] [] f m = if zco (f x0) 1 3 = true then zex zTb d zqX1_tableOf 30 [.ref x0, a1, .long x2, a3, a4] [zcf (f x0) 3, .long x2] f m else none := (zxl_go (x := (26, [.ref x0, a1, .long x2, a3, a4], [.long x2], f, m)) zh_X1_tableOf_25 rfl).trans ((zxl_go (x := (27, [.ref x0, a1, .long x2, a3, a4], [.ref x0, .long x2], f, m)) zh_X1_tableOf_26 rfl).trans ((zx_getfield zh_X1_tableOf_27)))
theorem ze_X1_tableOf_30 {d : Nat} {f : zF} {m : zM} {x0 y1 : Nat} {a1 a2 a3 a4 : Value} {y0 : Int64} : zex zTb d zqX1_tableOf 30 [.ref x0, a1, a2, a3, a4] [.ref y1, .long y0] f m = if zco (f x0) 1 0 = true then zex zTb d zqX1_tableOf 34 [.ref x0, a1, a2, a3, a4] [zcf (f x0) 0, .ref y1, .long y0] f m else none := (zxl_go (x := (31, [.ref x0, a1, a2, a3, a4], [.ref x0, .ref y1, .long y0], f, m)) zh_X1_tableOf_30 rfl).trans ((zx_getfield zh_X1_tableOf_31))
theorem ze_X1_tableOf_34 {d : Nat} {f : zF} {m : zM} {a0 a1 a2 a3 : Value} {x4 : Int32} {y0 : Int64} {y1 y2 : Nat} : zex zTb d zqX1_tableOf 34 [a0, a1, a2, a3, .int x4] [.ref y2, .ref y1, .long y0] f m = if zrl (f y2) x4 = true then zex zTb d zqX1_tableOf 37 [a0, a1, a2, a3, .int x4] [.long (zgl (f y2) x4.toNatClampNeg), .ref y1, .long y0] f m else none := (zxl_go (x := (36, [a0, a1, a2, a3, .int x4], [.int x4, .ref y2, .ref y1, .long y0], f, m)) zh_X1_tableOf_34 rfl).trans ((zx_laload zh_X1_tableOf_36))
theorem ze_X1_tableOf_37 {d : Nat} {f : zF} {m : zM} {a0 a1 a2 a3 a4 : Value} {y0 y2 : Int64} {y1 : Nat} : zex zTb d zqX1_tableOf 37 [a0, a1, a2, a3, a4] [.long y2, .ref y1, .long y0] f m = if zisc (f y1) 3 = true then zcal zTb (zrun zTb d 32 [.ref y1, .long y2] f m) d zqX1_tableOf 37 40 [a0, a1, a2, a3, a4] [.long y0] else none := (zx_virtual4 zh_X1_tableOf_37 (Nat.le_of_ble_eq_true rfl) rfl rfl (Nat.le_of_ble_eq_true rfl))
theorem ze_X1_tableOf_40 {d : Nat} {f : zF} {m : zM} {a0 a1 a2 a3 : Value} {x4 : Int32} {y0 y1 : Int64} : zex zTb d zqX1_tableOf 40 [a0, a1, a2, a3, .int x4] [.long y1, .long y0] f m = zex zTb d zqX1_tableOf 5 [a0, (zclr a1), .long (y0 ||| y1), .null, .int (x4 + I 1)] [] f m := (zxl_go (x := (41, [a0, a1, a2, a3, .int x4], [.long (y0 ||| y1)], f, m)) zh_X1_tableOf_40 rfl).trans ((zxl_go (x := (42, [a0, (zclr a1), .long (y0 ||| y1), .null, .int x4], [], f, m)) zh_X1_tableOf_41 rfl).trans ((zxl_go (x := (45, [a0, (zclr a1), .long (y0 ||| y1), .null, .int (x4 + I 1)], [], f, m)) zh_X1_tableOf_42 rfl).trans ((zx_goto zh_X1_tableOf_45 rfl))))
theorem ze_X1_tableOf_42 {d : Nat} {f : zF} {m : zM} {a0 a1 a2 a3 : Value} {x4 : Int32} : zex zTb d zqX1_tableOf 42 [a0, a1, a2, a3, .int x4] [] f m = zex zTb d zqX1_tableOf 5 [a0, a1, a2, (zclr a3), .int (x4 + I 1)] [] f m := (zxl_go (x := (45, [a0, a1, a2, (zclr a3), .int (x4 + I 1)], [], f, m)) zh_X1_tableOf_42 rfl).trans ((zx_goto zh_X1_tableOf_45 rfl))
theorem ze_X1_tableOf_48 {d : Nat} {f : zF} {m : zM} {a0 a1 a3 a4 : Value} {x2 : Int64} : zex zTb d zqX1_tableOf 48 [a0, a1, .long x2, a3, a4] [] f m = some (.inl (some (.long x2)), f, m) := (zxl_go (x := (49, [a0, a1, .long x2, a3, a4], [.long x2], f, m)) zh_X1_tableOf_48 rfl).trans ((zx_lret zh_X1_tableOf_49 rfl))
-- X2_init
theorem zh_X2_init_0 : zfe zqX2_init.i 0 = some (0, .aload_n 0, 1, 0, 0, 0) := rfl
theorem zh_X2_init_1 : zfe zqX2_init.i 1 = some (1, .invokespecial 3, 3, 0, 0, 0) := rfl
theorem zh_X2_init_4 : zfe zqX2_init.i 4 = some (4, .aload_n 0, 1, 0, 0, 0) := rfl
theorem zh_X2_init_5 : zfe zqX2_init.i 5 = some (5, .bipush 60, 2, 0, 0, 0) := rfl
theorem zh_X2_init_7 : zfe zqX2_init.i 7 = some (7, .newarray .int, 2, 0, 0, 0) := rfl
theorem zh_X2_init_9 : zfe zqX2_init.i 9 = some (9, .putfield 9, 3, 2, 0, 1) := rfl
theorem zh_X2_init_12 : zfe zqX2_init.i 12 = some (12, .aload_n 0, 1, 0, 0, 0) := rfl
theorem zh_X2_init_13 : zfe zqX2_init.i 13 = some (13, .bipush 60, 2, 0, 0, 0) := rfl
theorem zh_X2_init_15 : zfe zqX2_init.i 15 = some (15, .newarray .int, 2, 0, 0, 0) := rfl
theorem zh_X2_init_17 : zfe zqX2_init.i 17 = some (17, .putfield 15, 3, 2, 1, 1) := rfl
theorem zh_X2_init_20 : zfe zqX2_init.i 20 = some (20, .aload_n 0, 1, 0, 0, 0) := rfl
theorem zh_X2_init_21 : zfe zqX2_init.i 21 = some (21, .bipush 60, 2, 0, 0, 0) := rfl
theorem zh_X2_init_23 : zfe zqX2_init.i 23 = some (23, .newarray .int, 2, 0, 0, 0) := rfl
theorem zh_X2_init_25 : zfe zqX2_init.i 25 = some (25, .putfield 18, 3, 2, 2, 1) := rfl
theorem zh_X2_init_28 : zfe zqX2_init.i 28 = some (28, .return_, 1, 0, 0, 0) := rfl
theorem ze_X2_init_0 {d : Nat} {f : zF} {nx kk n : Nat} {x0 : Nat} : zex zTb d zqX2_init 0 [.ref x0] [] f (some nx, kk, n) = zex zTb d zqX2_init 9 [.ref x0] [.ref nx, .ref x0] (zup f nx (.inl (0, (60, .inl (fun _ => 0))))) (some (nx + 1), kk + 1, n + 60) := (zxl_go (x := (1, [.ref x0], [.ref x0], f, (some nx, kk, n))) zh_X2_init_0 rfl).trans ((zx_objinit zh_X2_init_1 (Nat.le_of_ble_eq_true rfl)).trans ((zxl_go (x := (5, [.ref x0], [.ref x0], f, (some nx, kk, n))) zh_X2_init_4 rfl).trans ((zx_bipush zh_X2_init_5 (by decide)).trans ((zx_newarr (N := 60) zh_X2_init_7 rfl (by decide) (by decide))))))
theorem ze_X2_init_9 {d : Nat} {f : zF} {m : zM} {a0 : Value} {y0 y1 : Nat} : zex zTb d zqX2_init 9 [a0] [.ref y1, .ref y0] f m = if (zco (f y0) 2 0 && zok (zfty 2 0) (.ref y1)) = true then zex zTb d zqX2_init 12 [a0] [] (zup f y0 (zcs (f y0) 0 (.ref y1))) m else none := (zx_putfield zh_X2_init_9)
theorem ze_X2_init_12 {d : Nat} {f : zF} {nx kk n : Nat} {x0 : Nat} : zex zTb d zqX2_init 12 [.ref x0] [] f (some nx, kk, n) = zex zTb d zqX2_init 17 [.ref x0] [.ref nx, .ref x0] (zup f nx (.inl (0, (60, .inl (fun _ => 0))))) (some (nx + 1), kk + 1, n + 60) := (zxl_go (x := (13, [.ref x0], [.ref x0], f, (some nx, kk, n))) zh_X2_init_12 rfl).trans ((zx_bipush zh_X2_init_13 (by decide)).trans ((zx_newarr (N := 60) zh_X2_init_15 rfl (by decide) (by decide))))
theorem ze_X2_init_17 {d : Nat} {f : zF} {m : zM} {a0 : Value} {y0 y1 : Nat} : zex zTb d zqX2_init 17 [a0] [.ref y1, .ref y0] f m = if (zco (f y0) 2 1 && zok (zfty 2 1) (.ref y1)) = true then zex zTb d zqX2_init 20 [a0] [] (zup f y0 (zcs (f y0) 1 (.ref y1))) m else none := (zx_putfield zh_X2_init_17)
theorem ze_X2_init_20 {d : Nat} {f : zF} {nx kk n : Nat} {x0 : Nat} : zex zTb d zqX2_init 20 [.ref x0] [] f (some nx, kk, n) = zex zTb d zqX2_init 25 [.ref x0] [.ref nx, .ref x0] (zup f nx (.inl (0, (60, .inl (fun _ => 0))))) (some (nx + 1), kk + 1, n + 60) := (zxl_go (x := (21, [.ref x0], [.ref x0], f, (some nx, kk, n))) zh_X2_init_20 rfl).trans ((zx_bipush zh_X2_init_21 (by decide)).trans ((zx_newarr (N := 60) zh_X2_init_23 rfl (by decide) (by decide))))
theorem ze_X2_init_25 {d : Nat} {f : zF} {m : zM} {a0 : Value} {y0 y1 : Nat} : zex zTb d zqX2_init 25 [a0] [.ref y1, .ref y0] f m = if (zco (f y0) 2 2 && zok (zfty 2 2) (.ref y1)) = true then zex zTb d zqX2_init 28 [a0] [] (zup f y0 (zcs (f y0) 2 (.ref y1))) m else none := (zx_putfield zh_X2_init_25)
theorem ze_X2_init_28 {d : Nat} {f : zF} {m : zM} {a0 : Value} : zex zTb d zqX2_init 28 [a0] [] f m = some (.inl none, f, m) := (zx_ret zh_X2_init_28 rfl)
-- X2_has
theorem zh_X2_has_0 : zfe zqX2_has.i 0 = some (0, .iload_n 1, 1, 0, 0, 0) := rfl
theorem zh_X2_has_1 : zfe zqX2_has.i 1 = some (1, .ifCond .lt 24, 3, 0, 0, 0) := rfl
theorem zh_X2_has_4 : zfe zqX2_has.i 4 = some (4, .iload_n 1, 1, 0, 0, 0) := rfl
theorem zh_X2_has_5 : zfe zqX2_has.i 5 = some (5, .aload_n 0, 1, 0, 0, 0) := rfl
theorem zh_X2_has_6 : zfe zqX2_has.i 6 = some (6, .getfield 21, 3, 2, 3, 0) := rfl
theorem zh_X2_has_9 : zfe zqX2_has.i 9 = some (9, .if_icmp .ge 16, 3, 0, 0, 0) := rfl
theorem zh_X2_has_12 : zfe zqX2_has.i 12 = some (12, .iload_n 1, 1, 0, 0, 0) := rfl
theorem zh_X2_has_13 : zfe zqX2_has.i 13 = some (13, .aload_n 0, 1, 0, 0, 0) := rfl
theorem zh_X2_has_14 : zfe zqX2_has.i 14 = some (14, .getfield 9, 3, 2, 0, 0) := rfl
theorem zh_X2_has_17 : zfe zqX2_has.i 17 = some (17, .arraylength, 1, 0, 0, 0) := rfl
theorem zh_X2_has_18 : zfe zqX2_has.i 18 = some (18, .if_icmp .ge 7, 3, 0, 0, 0) := rfl
theorem zh_X2_has_21 : zfe zqX2_has.i 21 = some (21, .iconst 1, 1, 0, 0, 0) := rfl
theorem zh_X2_has_22 : zfe zqX2_has.i 22 = some (22, .goto 4, 3, 0, 0, 0) := rfl
theorem zh_X2_has_25 : zfe zqX2_has.i 25 = some (25, .iconst 0, 1, 0, 0, 0) := rfl
theorem zh_X2_has_26 : zfe zqX2_has.i 26 = some (26, .ireturn, 1, 0, 0, 0) := rfl
theorem ze_X2_has_0 {d : Nat} {f : zF} {m : zM} {a0 : Value} {x1 : Int32} : zex zTb d zqX2_has 0 [a0, .int x1] [] f m = if zc1 .lt x1 = true then zex zTb d zqX2_has 25 [a0, .int x1] [] f m else zex zTb d zqX2_has 4 [a0, .int x1] [] f m := (zxl_go (x := (1, [a0, .int x1], [.int x1], f, m)) zh_X2_has_0 rfl).trans ((zx_if (tgt := 25) zh_X2_has_1 rfl))
theorem ze_X2_has_4 {d : Nat} {f : zF} {m : zM} {x0 : Nat} {x1 : Int32} : zex zTb d zqX2_has 4 [.ref x0, .int x1] [] f m = if zco (f x0) 2 3 = true then zex zTb d zqX2_has 9 [.ref x0, .int x1] [zcf (f x0) 3, .int x1] f m else none := (zxl_go (x := (5, [.ref x0, .int x1], [.int x1], f, m)) zh_X2_has_4 rfl).trans ((zxl_go (x := (6, [.ref x0, .int x1], [.ref x0, .int x1], f, m)) zh_X2_has_5 rfl).trans ((zx_getfield zh_X2_has_6)))
theorem ze_X2_has_9 {d : Nat} {f : zF} {m : zM} {a0 a1 : Value} {y0 y1 : Int32} : zex zTb d zqX2_has 9 [a0, a1] [.int y1, .int y0] f m = if zc2 .ge y0 y1 = true then zex zTb d zqX2_has 25 [a0, a1] [] f m else zex zTb d zqX2_has 12 [a0, a1] [] f m := (zx_icmp (tgt := 25) zh_X2_has_9 rfl)
theorem ze_X2_has_12 {d : Nat} {f : zF} {m : zM} {x0 : Nat} {x1 : Int32} : zex zTb d zqX2_has 12 [.ref x0, .int x1] [] f m = if zco (f x0) 2 0 = true then zex zTb d zqX2_has 17 [.ref x0, .int x1] [zcf (f x0) 0, .int x1] f m else none := (zxl_go (x := (13, [.ref x0, .int x1], [.int x1], f, m)) zh_X2_has_12 rfl).trans ((zxl_go (x := (14, [.ref x0, .int x1], [.ref x0, .int x1], f, m)) zh_X2_has_13 rfl).trans ((zx_getfield zh_X2_has_14)))
theorem ze_X2_has_17 {d : Nat} {f : zF} {m : zM} {a0 a1 : Value} {y0 : Int32} {y1 : Nat} : zex zTb d zqX2_has 17 [a0, a1] [.ref y1, .int y0] f m = if zisa (f y1) = true then zex zTb d zqX2_has 18 [a0, a1] [.int (Int32.ofNat (zln (f y1))), .int y0] f m else none := (zx_alen zh_X2_has_17)
theorem ze_X2_has_18 {d : Nat} {f : zF} {m : zM} {a0 a1 : Value} {y0 y1 : Int32} : zex zTb d zqX2_has 18 [a0, a1] [.int y1, .int y0] f m = if zc2 .ge y0 y1 = true then zex zTb d zqX2_has 25 [a0, a1] [] f m else zex zTb d zqX2_has 21 [a0, a1] [] f m := (zx_icmp (tgt := 25) zh_X2_has_18 rfl)
theorem ze_X2_has_21 {d : Nat} {f : zF} {m : zM} {a0 a1 : Value} : zex zTb d zqX2_has 21 [a0, a1] [] f m = some (.inl (some (.int (I 1))), f, m) := (zx_iconst zh_X2_has_21).trans ((zx_goto zh_X2_has_22 rfl).trans ((zx_iret zh_X2_has_26 (by first | rfl | decide))))
theorem ze_X2_has_25 {d : Nat} {f : zF} {m : zM} {a0 a1 : Value} : zex zTb d zqX2_has 25 [a0, a1] [] f m = some (.inl (some (.int (I 0))), f, m) := (zx_iconst zh_X2_has_25).trans ((zx_iret zh_X2_has_26 (by first | rfl | decide)))
-- X2_kindOf
theorem zh_X2_kindOf_0 : zfe zqX2_kindOf.i 0 = some (0, .aload_n 0, 1, 0, 0, 0) := rfl
theorem zh_X2_kindOf_1 : zfe zqX2_kindOf.i 1 = some (1, .iload_n 1, 1, 0, 0, 0) := rfl
theorem zh_X2_kindOf_2 : zfe zqX2_kindOf.i 2 = some (2, .invokevirtual 25, 3, 11, 2, 2) := rfl
theorem zh_X2_kindOf_5 : zfe zqX2_kindOf.i 5 = some (5, .ifCond .eq 12, 3, 0, 0, 0) := rfl
theorem zh_X2_kindOf_8 : zfe zqX2_kindOf.i 8 = some (8, .aload_n 0, 1, 0, 0, 0) := rfl
theorem zh_X2_kindOf_9 : zfe zqX2_kindOf.i 9 = some (9, .getfield 9, 3, 2, 0, 0) := rfl
theorem zh_X2_kindOf_12 : zfe zqX2_kindOf.i 12 = some (12, .iload_n 1, 1, 0, 0, 0) := rfl
theorem zh_X2_kindOf_13 : zfe zqX2_kindOf.i 13 = some (13, .iaload, 1, 0, 0, 0) := rfl
theorem zh_X2_kindOf_14 : zfe zqX2_kindOf.i 14 = some (14, .goto 4, 3, 0, 0, 0) := rfl
theorem zh_X2_kindOf_17 : zfe zqX2_kindOf.i 17 = some (17, .iconst 0, 1, 0, 0, 0) := rfl
theorem zh_X2_kindOf_18 : zfe zqX2_kindOf.i 18 = some (18, .ireturn, 1, 0, 0, 0) := rfl
theorem ze_X2_kindOf_0 {d : Nat} {f : zF} {m : zM} {x0 : Nat} {x1 : Int32} : zex zTb d zqX2_kindOf 0 [.ref x0, .int x1] [] f m = if zisc (f x0) 2 = true then zcal zTb (zrun zTb d 11 [.ref x0, .int x1] f m) d zqX2_kindOf 2 5 [.ref x0, .int x1] [] else none := (zxl_go (x := (1, [.ref x0, .int x1], [.ref x0], f, m)) zh_X2_kindOf_0 rfl).trans ((zxl_go (x := (2, [.ref x0, .int x1], [.int x1, .ref x0], f, m)) zh_X2_kindOf_1 rfl).trans ((zx_virtual4 zh_X2_kindOf_2 (Nat.le_of_ble_eq_true rfl) rfl rfl (Nat.le_of_ble_eq_true rfl))))
theorem ze_X2_kindOf_5 {d : Nat} {f : zF} {m : zM} {a0 a1 : Value} {y0 : Int32} : zex zTb d zqX2_kindOf 5 [a0, a1] [.int y0] f m = if zc1 .eq y0 = true then zex zTb d zqX2_kindOf 17 [a0, a1] [] f m else zex zTb d zqX2_kindOf 8 [a0, a1] [] f m := (zx_if (tgt := 17) zh_X2_kindOf_5 rfl)
theorem ze_X2_kindOf_8 {d : Nat} {f : zF} {m : zM} {x0 : Nat} {a1 : Value} : zex zTb d zqX2_kindOf 8 [.ref x0, a1] [] f m = if zco (f x0) 2 0 = true then zex zTb d zqX2_kindOf 12 [.ref x0, a1] [zcf (f x0) 0] f m else none := (zxl_go (x := (9, [.ref x0, a1], [.ref x0], f, m)) zh_X2_kindOf_8 rfl).trans ((zx_getfield zh_X2_kindOf_9))
theorem ze_X2_kindOf_12 {d : Nat} {f : zF} {m : zM} {a0 : Value} {x1 : Int32} {y0 : Nat} : zex zTb d zqX2_kindOf 12 [a0, .int x1] [.ref y0] f m = if zr8 (f y0) x1 = true then zex zTb d zqX2_kindOf 14 [a0, .int x1] [.int (zgi (f y0) x1.toNatClampNeg)] f m else none := (zxl_go (x := (13, [a0, .int x1], [.int x1, .ref y0], f, m)) zh_X2_kindOf_12 rfl).trans ((zx_iaload zh_X2_kindOf_13))
theorem ze_X2_kindOf_14 {d : Nat} {f : zF} {m : zM} {a0 a1 : Value} {y0 : Int32} : zex zTb d zqX2_kindOf 14 [a0, a1] [.int y0] f m = some (.inl (some (.int y0)), f, m) := (zx_goto zh_X2_kindOf_14 rfl).trans ((zx_iret zh_X2_kindOf_18 (by first | rfl | decide)))
theorem ze_X2_kindOf_17 {d : Nat} {f : zF} {m : zM} {a0 a1 : Value} : zex zTb d zqX2_kindOf 17 [a0, a1] [] f m = some (.inl (some (.int (I 0))), f, m) := (zx_iconst zh_X2_kindOf_17).trans ((zx_iret zh_X2_kindOf_18 (by first | rfl | decide)))
-- X2_letterOf
theorem zh_X2_letterOf_0 : zfe zqX2_letterOf.i 0 = some (0, .aload_n 0, 1, 0, 0, 0) := rfl
theorem zh_X2_letterOf_1 : zfe zqX2_letterOf.i 1 = some (1, .iload_n 1, 1, 0, 0, 0) := rfl
theorem zh_X2_letterOf_2 : zfe zqX2_letterOf.i 2 = some (2, .invokevirtual 25, 3, 11, 2, 2) := rfl
theorem zh_X2_letterOf_5 : zfe zqX2_letterOf.i 5 = some (5, .ifCond .eq 12, 3, 0, 0, 0) := rfl
theorem zh_X2_letterOf_8 : zfe zqX2_letterOf.i 8 = some (8, .aload_n 0, 1, 0, 0, 0) := rfl
theorem zh_X2_letterOf_9 : zfe zqX2_letterOf.i 9 = some (9, .getfield 15, 3, 2, 1, 0) := rfl
theorem zh_X2_letterOf_12 : zfe zqX2_letterOf.i 12 = some (12, .iload_n 1, 1, 0, 0, 0) := rfl
theorem zh_X2_letterOf_13 : zfe zqX2_letterOf.i 13 = some (13, .iaload, 1, 0, 0, 0) := rfl
theorem zh_X2_letterOf_14 : zfe zqX2_letterOf.i 14 = some (14, .goto 4, 3, 0, 0, 0) := rfl
theorem zh_X2_letterOf_17 : zfe zqX2_letterOf.i 17 = some (17, .iconst 0, 1, 0, 0, 0) := rfl
theorem zh_X2_letterOf_18 : zfe zqX2_letterOf.i 18 = some (18, .ireturn, 1, 0, 0, 0) := rfl
theorem ze_X2_letterOf_0 {d : Nat} {f : zF} {m : zM} {x0 : Nat} {x1 : Int32} : zex zTb d zqX2_letterOf 0 [.ref x0, .int x1] [] f m = if zisc (f x0) 2 = true then zcal zTb (zrun zTb d 11 [.ref x0, .int x1] f m) d zqX2_letterOf 2 5 [.ref x0, .int x1] [] else none := (zxl_go (x := (1, [.ref x0, .int x1], [.ref x0], f, m)) zh_X2_letterOf_0 rfl).trans ((zxl_go (x := (2, [.ref x0, .int x1], [.int x1, .ref x0], f, m)) zh_X2_letterOf_1 rfl).trans ((zx_virtual4 zh_X2_letterOf_2 (Nat.le_of_ble_eq_true rfl) rfl rfl (Nat.le_of_ble_eq_true rfl))))
theorem ze_X2_letterOf_5 {d : Nat} {f : zF} {m : zM} {a0 a1 : Value} {y0 : Int32} : zex zTb d zqX2_letterOf 5 [a0, a1] [.int y0] f m = if zc1 .eq y0 = true then zex zTb d zqX2_letterOf 17 [a0, a1] [] f m else zex zTb d zqX2_letterOf 8 [a0, a1] [] f m := (zx_if (tgt := 17) zh_X2_letterOf_5 rfl)
theorem ze_X2_letterOf_8 {d : Nat} {f : zF} {m : zM} {x0 : Nat} {a1 : Value} : zex zTb d zqX2_letterOf 8 [.ref x0, a1] [] f m = if zco (f x0) 2 1 = true then zex zTb d zqX2_letterOf 12 [.ref x0, a1] [zcf (f x0) 1] f m else none := (zxl_go (x := (9, [.ref x0, a1], [.ref x0], f, m)) zh_X2_letterOf_8 rfl).trans ((zx_getfield zh_X2_letterOf_9))
theorem ze_X2_letterOf_12 {d : Nat} {f : zF} {m : zM} {a0 : Value} {x1 : Int32} {y0 : Nat} : zex zTb d zqX2_letterOf 12 [a0, .int x1] [.ref y0] f m = if zr8 (f y0) x1 = true then zex zTb d zqX2_letterOf 14 [a0, .int x1] [.int (zgi (f y0) x1.toNatClampNeg)] f m else none := (zxl_go (x := (13, [a0, .int x1], [.int x1, .ref y0], f, m)) zh_X2_letterOf_12 rfl).trans ((zx_iaload zh_X2_letterOf_13))
theorem ze_X2_letterOf_14 {d : Nat} {f : zF} {m : zM} {a0 a1 : Value} {y0 : Int32} : zex zTb d zqX2_letterOf 14 [a0, a1] [.int y0] f m = some (.inl (some (.int y0)), f, m) := (zx_goto zh_X2_letterOf_14 rfl).trans ((zx_iret zh_X2_letterOf_18 (by first | rfl | decide)))
theorem ze_X2_letterOf_17 {d : Nat} {f : zF} {m : zM} {a0 a1 : Value} : zex zTb d zqX2_letterOf 17 [a0, a1] [] f m = some (.inl (some (.int (I 0))), f, m) := (zx_iconst zh_X2_letterOf_17).trans ((zx_iret zh_X2_letterOf_18 (by first | rfl | decide)))
-- X2_secondOf
theorem zh_X2_secondOf_0 : zfe zqX2_secondOf.i 0 = some (0, .aload_n 0, 1, 0, 0, 0) := rfl
theorem zh_X2_secondOf_1 : zfe zqX2_secondOf.i 1 = some (1, .iload_n 1, 1, 0, 0, 0) := rfl
theorem zh_X2_secondOf_2 : zfe zqX2_secondOf.i 2 = some (2, .iconst 1, 1, 0, 0, 0) := rfl
theorem zh_X2_secondOf_3 : zfe zqX2_secondOf.i 3 = some (3, .iadd, 1, 0, 0, 0) := rfl
theorem zh_X2_secondOf_4 : zfe zqX2_secondOf.i 4 = some (4, .invokevirtual 25, 3, 11, 2, 2) := rfl
theorem zh_X2_secondOf_7 : zfe zqX2_secondOf.i 7 = some (7, .ifCond .eq 18, 3, 0, 0, 0) := rfl
theorem zh_X2_secondOf_10 : zfe zqX2_secondOf.i 10 = some (10, .iload_n 1, 1, 0, 0, 0) := rfl
theorem zh_X2_secondOf_11 : zfe zqX2_secondOf.i 11 = some (11, .iconst 1, 1, 0, 0, 0) := rfl
theorem zh_X2_secondOf_12 : zfe zqX2_secondOf.i 12 = some (12, .iadd, 1, 0, 0, 0) := rfl
theorem zh_X2_secondOf_13 : zfe zqX2_secondOf.i 13 = some (13, .aload_n 0, 1, 0, 0, 0) := rfl
theorem zh_X2_secondOf_14 : zfe zqX2_secondOf.i 14 = some (14, .getfield 18, 3, 2, 2, 0) := rfl
theorem zh_X2_secondOf_17 : zfe zqX2_secondOf.i 17 = some (17, .iload_n 1, 1, 0, 0, 0) := rfl
theorem zh_X2_secondOf_18 : zfe zqX2_secondOf.i 18 = some (18, .iconst 1, 1, 0, 0, 0) := rfl
theorem zh_X2_secondOf_19 : zfe zqX2_secondOf.i 19 = some (19, .iadd, 1, 0, 0, 0) := rfl
theorem zh_X2_secondOf_20 : zfe zqX2_secondOf.i 20 = some (20, .iaload, 1, 0, 0, 0) := rfl
theorem zh_X2_secondOf_21 : zfe zqX2_secondOf.i 21 = some (21, .iadd, 1, 0, 0, 0) := rfl
theorem zh_X2_secondOf_22 : zfe zqX2_secondOf.i 22 = some (22, .goto 4, 3, 0, 0, 0) := rfl
theorem zh_X2_secondOf_25 : zfe zqX2_secondOf.i 25 = some (25, .iconst (-1), 1, 0, 0, 0) := rfl
theorem zh_X2_secondOf_26 : zfe zqX2_secondOf.i 26 = some (26, .ireturn, 1, 0, 0, 0) := rfl
theorem ze_X2_secondOf_0 {d : Nat} {f : zF} {m : zM} {x0 : Nat} {x1 : Int32} : zex zTb d zqX2_secondOf 0 [.ref x0, .int x1] [] f m = if zisc (f x0) 2 = true then zcal zTb (zrun zTb d 11 [.ref x0, .int (x1 + (I 1))] f m) d zqX2_secondOf 4 7 [.ref x0, .int x1] [] else none := (zxl_go (x := (1, [.ref x0, .int x1], [.ref x0], f, m)) zh_X2_secondOf_0 rfl).trans ((zxl_go (x := (2, [.ref x0, .int x1], [.int x1, .ref x0], f, m)) zh_X2_secondOf_1 rfl).trans ((zx_iconst zh_X2_secondOf_2).trans ((zxl_go (x := (4, [.ref x0, .int x1], [.int (x1 + (I 1)), .ref x0], f, m)) zh_X2_secondOf_3 rfl).trans ((zx_virtual4 zh_X2_secondOf_4 (Nat.le_of_ble_eq_true rfl) rfl rfl (Nat.le_of_ble_eq_true rfl))))))
theorem ze_X2_secondOf_7 {d : Nat} {f : zF} {m : zM} {a0 a1 : Value} {y0 : Int32} : zex zTb d zqX2_secondOf 7 [a0, a1] [.int y0] f m = if zc1 .eq y0 = true then zex zTb d zqX2_secondOf 25 [a0, a1] [] f m else zex zTb d zqX2_secondOf 10 [a0, a1] [] f m := (zx_if (tgt := 25) zh_X2_secondOf_7 rfl)
theorem ze_X2_secondOf_10 {d : Nat} {f : zF} {m : zM} {x0 : Nat} {x1 : Int32} : zex zTb d zqX2_secondOf 10 [.ref x0, .int x1] [] f m = if zco (f x0) 2 2 = true then zex zTb d zqX2_secondOf 17 [.ref x0, .int x1] [zcf (f x0) 2, .int (x1 + (I 1))] f m else none := (zxl_go (x := (11, [.ref x0, .int x1], [.int x1], f, m)) zh_X2_secondOf_10 rfl).trans ((zx_iconst zh_X2_secondOf_11).trans ((zxl_go (x := (13, [.ref x0, .int x1], [.int (x1 + (I 1))], f, m)) zh_X2_secondOf_12 rfl).trans ((zxl_go (x := (14, [.ref x0, .int x1], [.ref x0, .int (x1 + (I 1))], f, m)) zh_X2_secondOf_13 rfl).trans ((zx_getfield zh_X2_secondOf_14)))))
theorem ze_X2_secondOf_17 {d : Nat} {f : zF} {m : zM} {a0 : Value} {x1 y0 : Int32} {y1 : Nat} : zex zTb d zqX2_secondOf 17 [a0, .int x1] [.ref y1, .int y0] f m = if zr8 (f y1) (x1 + (I 1)) = true then zex zTb d zqX2_secondOf 21 [a0, .int x1] [.int (zgi (f y1) (x1 + (I 1)).toNatClampNeg), .int y0] f m else none := (zxl_go (x := (18, [a0, .int x1], [.int x1, .ref y1, .int y0], f, m)) zh_X2_secondOf_17 rfl).trans ((zx_iconst zh_X2_secondOf_18).trans ((zxl_go (x := (20, [a0, .int x1], [.int (x1 + (I 1)), .ref y1, .int y0], f, m)) zh_X2_secondOf_19 rfl).trans ((zx_iaload zh_X2_secondOf_20))))
theorem ze_X2_secondOf_21 {d : Nat} {f : zF} {m : zM} {a0 a1 : Value} {y0 y1 : Int32} : zex zTb d zqX2_secondOf 21 [a0, a1] [.int y1, .int y0] f m = some (.inl (some (.int (y0 + y1))), f, m) := (zxl_go (x := (22, [a0, a1], [.int (y0 + y1)], f, m)) zh_X2_secondOf_21 rfl).trans ((zx_goto zh_X2_secondOf_22 rfl).trans ((zx_iret zh_X2_secondOf_26 (by first | rfl | decide))))
theorem ze_X2_secondOf_25 {d : Nat} {f : zF} {m : zM} {a0 a1 : Value} : zex zTb d zqX2_secondOf 25 [a0, a1] [] f m = some (.inl (some (.int (I (-1)))), f, m) := (zx_iconst zh_X2_secondOf_25).trans ((zx_iret zh_X2_secondOf_26 (by first | rfl | decide)))
-- X2_totalCost
theorem zh_X2_totalCost_0 : zfe zqX2_totalCost.i 0 = some (0, .iconst 0, 1, 0, 0, 0) := rfl
theorem zh_X2_totalCost_1 : zfe zqX2_totalCost.i 1 = some (1, .istore_n 2, 1, 0, 0, 0) := rfl
theorem zh_X2_totalCost_2 : zfe zqX2_totalCost.i 2 = some (2, .iconst 0, 1, 0, 0, 0) := rfl
theorem zh_X2_totalCost_3 : zfe zqX2_totalCost.i 3 = some (3, .istore_n 3, 1, 0, 0, 0) := rfl
theorem zh_X2_totalCost_4 : zfe zqX2_totalCost.i 4 = some (4, .iload_n 3, 1, 0, 0, 0) := rfl
theorem zh_X2_totalCost_5 : zfe zqX2_totalCost.i 5 = some (5, .aload_n 0, 1, 0, 0, 0) := rfl
theorem zh_X2_totalCost_6 : zfe zqX2_totalCost.i 6 = some (6, .getfield 21, 3, 2, 3, 0) := rfl
theorem zh_X2_totalCost_9 : zfe zqX2_totalCost.i 9 = some (9, .if_icmp .ge 40, 3, 0, 0, 0) := rfl
theorem zh_X2_totalCost_12 : zfe zqX2_totalCost.i 12 = some (12, .aload_n 0, 1, 0, 0, 0) := rfl
theorem zh_X2_totalCost_13 : zfe zqX2_totalCost.i 13 = some (13, .getfield 9, 3, 2, 0, 0) := rfl
theorem zh_X2_totalCost_16 : zfe zqX2_totalCost.i 16 = some (16, .iload_n 3, 1, 0, 0, 0) := rfl
theorem zh_X2_totalCost_17 : zfe zqX2_totalCost.i 17 = some (17, .iaload, 1, 0, 0, 0) := rfl
theorem zh_X2_totalCost_18 : zfe zqX2_totalCost.i 18 = some (18, .istore 4, 2, 0, 0, 0) := rfl
theorem zh_X2_totalCost_20 : zfe zqX2_totalCost.i 20 = some (20, .iload_n 2, 1, 0, 0, 0) := rfl
theorem zh_X2_totalCost_21 : zfe zqX2_totalCost.i 21 = some (21, .iload 4, 2, 0, 0, 0) := rfl
theorem zh_X2_totalCost_23 : zfe zqX2_totalCost.i 23 = some (23, .ifCond .lt 17, 3, 0, 0, 0) := rfl
theorem zh_X2_totalCost_26 : zfe zqX2_totalCost.i 26 = some (26, .iload 4, 2, 0, 0, 0) := rfl
theorem zh_X2_totalCost_28 : zfe zqX2_totalCost.i 28 = some (28, .aload_n 1, 1, 0, 0, 0) := rfl
theorem zh_X2_totalCost_29 : zfe zqX2_totalCost.i 29 = some (29, .arraylength, 1, 0, 0, 0) := rfl
theorem zh_X2_totalCost_30 : zfe zqX2_totalCost.i 30 = some (30, .if_icmp .ge 10, 3, 0, 0, 0) := rfl
theorem zh_X2_totalCost_33 : zfe zqX2_totalCost.i 33 = some (33, .aload_n 1, 1, 0, 0, 0) := rfl
theorem zh_X2_totalCost_34 : zfe zqX2_totalCost.i 34 = some (34, .iload 4, 2, 0, 0, 0) := rfl
theorem zh_X2_totalCost_36 : zfe zqX2_totalCost.i 36 = some (36, .iaload, 1, 0, 0, 0) := rfl
theorem zh_X2_totalCost_37 : zfe zqX2_totalCost.i 37 = some (37, .goto 4, 3, 0, 0, 0) := rfl
theorem zh_X2_totalCost_40 : zfe zqX2_totalCost.i 40 = some (40, .iconst 0, 1, 0, 0, 0) := rfl
theorem zh_X2_totalCost_41 : zfe zqX2_totalCost.i 41 = some (41, .iadd, 1, 0, 0, 0) := rfl
theorem zh_X2_totalCost_42 : zfe zqX2_totalCost.i 42 = some (42, .istore_n 2, 1, 0, 0, 0) := rfl
theorem zh_X2_totalCost_43 : zfe zqX2_totalCost.i 43 = some (43, .iinc 3 1, 3, 0, 0, 0) := rfl
theorem zh_X2_totalCost_46 : zfe zqX2_totalCost.i 46 = some (46, .goto (-42), 3, 0, 0, 0) := rfl
theorem zh_X2_totalCost_49 : zfe zqX2_totalCost.i 49 = some (49, .iload_n 2, 1, 0, 0, 0) := rfl
theorem zh_X2_totalCost_50 : zfe zqX2_totalCost.i 50 = some (50, .ireturn, 1, 0, 0, 0) := rfl
theorem ze_X2_totalCost_0 {d : Nat} {f : zF} {m : zM} {a0 a1 a2 a3 a4 : Value} : zex zTb d zqX2_totalCost 0 [a0, a1, a2, a3, a4] [] f m = zex zTb d zqX2_totalCost 4 [a0, (zclr a1), .int (I 0), .int (I 0), a4] [] f m := (zx_iconst zh_X2_totalCost_0).trans ((zxl_go (x := (2, [a0, (zclr a1), .int (I 0), a3, a4], [], f, m)) zh_X2_totalCost_1 rfl).trans ((zx_iconst zh_X2_totalCost_2).trans ((zxl_go (x := (4, [a0, (zclr a1), .int (I 0), .int (I 0), a4], [], f, m)) zh_X2_totalCost_3 rfl))))
theorem ze_X2_totalCost_4 {d : Nat} {f : zF} {m : zM} {x0 : Nat} {a1 a2 a4 : Value} {x3 : Int32} : zex zTb d zqX2_totalCost 4 [.ref x0, a1, a2, .int x3, a4] [] f m = if zco (f x0) 2 3 = true then zex zTb d zqX2_totalCost 9 [.ref x0, a1, a2, .int x3, a4] [zcf (f x0) 3, .int x3] f m else none := (zxl_go (x := (5, [.ref x0, a1, a2, .int x3, a4], [.int x3], f, m)) zh_X2_totalCost_4 rfl).trans ((zxl_go (x := (6, [.ref x0, a1, a2, .int x3, a4], [.ref x0, .int x3], f, m)) zh_X2_totalCost_5 rfl).trans ((zx_getfield zh_X2_totalCost_6)))
theorem ze_X2_totalCost_9 {d : Nat} {f : zF} {m : zM} {a0 a1 a2 a3 a4 : Value} {y0 y1 : Int32} : zex zTb d zqX2_totalCost 9 [a0, a1, a2, a3, a4] [.int y1, .int y0] f m = if zc2 .ge y0 y1 = true then zex zTb d zqX2_totalCost 49 [a0, a1, a2, a3, a4] [] f m else zex zTb d zqX2_totalCost 12 [a0, a1, a2, a3, a4] [] f m := (zx_icmp (tgt := 49) zh_X2_totalCost_9 rfl)
theorem ze_X2_totalCost_12 {d : Nat} {f : zF} {m : zM} {x0 : Nat} {a1 a2 a3 a4 : Value} : zex zTb d zqX2_totalCost 12 [.ref x0, a1, a2, a3, a4] [] f m = if zco (f x0) 2 0 = true then zex zTb d zqX2_totalCost 16 [.ref x0, a1, a2, a3, a4] [zcf (f x0) 0] f m else none := (zxl_go (x := (13, [.ref x0, a1, a2, a3, a4], [.ref x0], f, m)) zh_X2_totalCost_12 rfl).trans ((zx_getfield zh_X2_totalCost_13))
theorem ze_X2_totalCost_16 {d : Nat} {f : zF} {m : zM} {a0 a1 a2 a4 : Value} {x3 : Int32} {y0 : Nat} : zex zTb d zqX2_totalCost 16 [a0, a1, a2, .int x3, a4] [.ref y0] f m = if zr8 (f y0) x3 = true then zex zTb d zqX2_totalCost 18 [a0, a1, a2, .int x3, a4] [.int (zgi (f y0) x3.toNatClampNeg)] f m else none := (zxl_go (x := (17, [a0, a1, a2, .int x3, a4], [.int x3, .ref y0], f, m)) zh_X2_totalCost_16 rfl).trans ((zx_iaload zh_X2_totalCost_17))
theorem ze_X2_totalCost_18 {d : Nat} {f : zF} {m : zM} {a0 a1 a3 a4 : Value} {x2 y0 : Int32} : zex zTb d zqX2_totalCost 18 [a0, a1, .int x2, a3, a4] [.int y0] f m = if zc1 .lt y0 = true then zex zTb d zqX2_totalCost 40 [a0, a1, .int x2, (zclr a3), .int y0] [.int x2] f m else zex zTb d zqX2_totalCost 26 [a0, a1, .int x2, (zclr a3), .int y0] [.int x2] f m := (zxl_go (x := (20, [a0, a1, .int x2, (zclr a3), .int y0], [], f, m)) zh_X2_totalCost_18 rfl).trans ((zxl_go (x := (21, [a0, a1, .int x2, (zclr a3), .int y0], [.int x2], f, m)) zh_X2_totalCost_20 rfl).trans ((zxl_go (x := (23, [a0, a1, .int x2, (zclr a3), .int y0], [.int y0, .int x2], f, m)) zh_X2_totalCost_21 rfl).trans ((zx_if (tgt := 40) zh_X2_totalCost_23 rfl))))
theorem ze_X2_totalCost_26 {d : Nat} {f : zF} {m : zM} {a0 a2 a3 : Value} {x1 : Nat} {x4 y0 : Int32} : zex zTb d zqX2_totalCost 26 [a0, .ref x1, a2, a3, .int x4] [.int y0] f m = if zisa (f x1) = true then zex zTb d zqX2_totalCost 30 [a0, .ref x1, a2, a3, .int x4] [.int (Int32.ofNat (zln (f x1))), .int x4, .int y0] f m else none := (zxl_go (x := (28, [a0, .ref x1, a2, a3, .int x4], [.int x4, .int y0], f, m)) zh_X2_totalCost_26 rfl).trans ((zxl_go (x := (29, [a0, .ref x1, a2, a3, .int x4], [.ref x1, .int x4, .int y0], f, m)) zh_X2_totalCost_28 rfl).trans ((zx_alen zh_X2_totalCost_29)))
theorem ze_X2_totalCost_30 {d : Nat} {f : zF} {m : zM} {a0 a1 a2 a3 a4 : Value} {y0 y1 y2 : Int32} : zex zTb d zqX2_totalCost 30 [a0, a1, a2, a3, a4] [.int y2, .int y1, .int y0] f m = if zc2 .ge y1 y2 = true then zex zTb d zqX2_totalCost 40 [a0, a1, a2, a3, a4] [.int y0] f m else zex zTb d zqX2_totalCost 33 [a0, a1, a2, a3, a4] [.int y0] f m := (zx_icmp (tgt := 40) zh_X2_totalCost_30 rfl)
theorem ze_X2_totalCost_33 {d : Nat} {f : zF} {m : zM} {a0 a2 a3 : Value} {x1 : Nat} {x4 y0 : Int32} : zex zTb d zqX2_totalCost 33 [a0, .ref x1, a2, a3, .int x4] [.int y0] f m = if zr8 (f x1) x4 = true then zex zTb d zqX2_totalCost 37 [a0, .ref x1, a2, a3, .int x4] [.int (zgi (f x1) x4.toNatClampNeg), .int y0] f m else none := (zxl_go (x := (34, [a0, .ref x1, a2, a3, .int x4], [.ref x1, .int y0], f, m)) zh_X2_totalCost_33 rfl).trans ((zxl_go (x := (36, [a0, .ref x1, a2, a3, .int x4], [.int x4, .ref x1, .int y0], f, m)) zh_X2_totalCost_34 rfl).trans ((zx_iaload zh_X2_totalCost_36)))
theorem ze_X2_totalCost_37 {d : Nat} {f : zF} {m : zM} {a0 a1 a2 a4 : Value} {x3 y0 y1 : Int32} : zex zTb d zqX2_totalCost 37 [a0, a1, a2, .int x3, a4] [.int y1, .int y0] f m = zex zTb d zqX2_totalCost 4 [a0, (zclr a1), .int (y0 + y1), .int (x3 + I 1), a4] [] f m := (zx_goto zh_X2_totalCost_37 rfl).trans ((zxl_go (x := (42, [a0, a1, a2, .int x3, a4], [.int (y0 + y1)], f, m)) zh_X2_totalCost_41 rfl).trans ((zxl_go (x := (43, [a0, (zclr a1), .int (y0 + y1), .int x3, a4], [], f, m)) zh_X2_totalCost_42 rfl).trans ((zxl_go (x := (46, [a0, (zclr a1), .int (y0 + y1), .int (x3 + I 1), a4], [], f, m)) zh_X2_totalCost_43 rfl).trans ((zx_goto zh_X2_totalCost_46 rfl)))))
theorem ze_X2_totalCost_40 {d : Nat} {f : zF} {m : zM} {a0 a1 a2 a4 : Value} {x3 y0 : Int32} : zex zTb d zqX2_totalCost 40 [a0, a1, a2, .int x3, a4] [.int y0] f m = zex zTb d zqX2_totalCost 4 [a0, (zclr a1), .int (y0 + (I 0)), .int (x3 + I 1), a4] [] f m := (zx_iconst zh_X2_totalCost_40).trans ((zxl_go (x := (42, [a0, a1, a2, .int x3, a4], [.int (y0 + (I 0))], f, m)) zh_X2_totalCost_41 rfl).trans ((zxl_go (x := (43, [a0, (zclr a1), .int (y0 + (I 0)), .int x3, a4], [], f, m)) zh_X2_totalCost_42 rfl).trans ((zxl_go (x := (46, [a0, (zclr a1), .int (y0 + (I 0)), .int (x3 + I 1), a4], [], f, m)) zh_X2_totalCost_43 rfl).trans ((zx_goto zh_X2_totalCost_46 rfl)))))
theorem ze_X2_totalCost_49 {d : Nat} {f : zF} {m : zM} {a0 a1 a3 a4 : Value} {x2 : Int32} : zex zTb d zqX2_totalCost 49 [a0, a1, .int x2, a3, a4] [] f m = some (.inl (some (.int x2)), f, m) := (zxl_go (x := (50, [a0, a1, .int x2, a3, a4], [.int x2], f, m)) zh_X2_totalCost_49 rfl).trans ((zx_iret zh_X2_totalCost_50 (by first | rfl | decide)))
-- X2_becomeNoNodes
theorem zh_X2_becomeNoNodes_0 : zfe zqX2_becomeNoNodes.i 0 = some (0, .aload_n 0, 1, 0, 0, 0) := rfl
theorem zh_X2_becomeNoNodes_1 : zfe zqX2_becomeNoNodes.i 1 = some (1, .iconst 0, 1, 0, 0, 0) := rfl
theorem zh_X2_becomeNoNodes_2 : zfe zqX2_becomeNoNodes.i 2 = some (2, .putfield 21, 3, 2, 3, 0) := rfl
theorem zh_X2_becomeNoNodes_5 : zfe zqX2_becomeNoNodes.i 5 = some (5, .return_, 1, 0, 0, 0) := rfl
theorem ze_X2_becomeNoNodes_0 {d : Nat} {f : zF} {m : zM} {x0 : Nat} : zex zTb d zqX2_becomeNoNodes 0 [.ref x0] [] f m = if (zco (f x0) 2 3 && zok (zfty 2 3) (.int (I 0))) = true then zex zTb d zqX2_becomeNoNodes 5 [.ref x0] [] (zup f x0 (zcs (f x0) 3 (.int (I 0)))) m else none := (zxl_go (x := (1, [.ref x0], [.ref x0], f, m)) zh_X2_becomeNoNodes_0 rfl).trans ((zx_iconst zh_X2_becomeNoNodes_1).trans ((zx_putfield zh_X2_becomeNoNodes_2)))
theorem ze_X2_becomeNoNodes_5 {d : Nat} {f : zF} {m : zM} {a0 : Value} : zex zTb d zqX2_becomeNoNodes 5 [a0] [] f m = some (.inl none, f, m) := (zx_ret zh_X2_becomeNoNodes_5 rfl)
-- X2_append
theorem zh_X2_append_0 : zfe zqX2_append.i 0 = some (0, .aload_n 0, 1, 0, 0, 0) := rfl
theorem zh_X2_append_1 : zfe zqX2_append.i 1 = some (1, .getfield 21, 3, 2, 3, 0) := rfl
theorem zh_X2_append_4 : zfe zqX2_append.i 4 = some (4, .ifCond .lt 64, 3, 0, 0, 0) := rfl
theorem zh_X2_append_7 : zfe zqX2_append.i 7 = some (7, .aload_n 0, 1, 0, 0, 0) := rfl
theorem zh_X2_append_8 : zfe zqX2_append.i 8 = some (8, .getfield 21, 3, 2, 3, 0) := rfl
theorem zh_X2_append_11 : zfe zqX2_append.i 11 = some (11, .aload_n 0, 1, 0, 0, 0) := rfl
theorem zh_X2_append_12 : zfe zqX2_append.i 12 = some (12, .getfield 9, 3, 2, 0, 0) := rfl
theorem zh_X2_append_15 : zfe zqX2_append.i 15 = some (15, .arraylength, 1, 0, 0, 0) := rfl
theorem zh_X2_append_16 : zfe zqX2_append.i 16 = some (16, .if_icmp .ge 52, 3, 0, 0, 0) := rfl
theorem zh_X2_append_19 : zfe zqX2_append.i 19 = some (19, .aload_n 0, 1, 0, 0, 0) := rfl
theorem zh_X2_append_20 : zfe zqX2_append.i 20 = some (20, .getfield 9, 3, 2, 0, 0) := rfl
theorem zh_X2_append_23 : zfe zqX2_append.i 23 = some (23, .aload_n 0, 1, 0, 0, 0) := rfl
theorem zh_X2_append_24 : zfe zqX2_append.i 24 = some (24, .getfield 21, 3, 2, 3, 0) := rfl
theorem zh_X2_append_27 : zfe zqX2_append.i 27 = some (27, .iload_n 1, 1, 0, 0, 0) := rfl
theorem zh_X2_append_28 : zfe zqX2_append.i 28 = some (28, .iastore, 1, 0, 0, 0) := rfl
theorem zh_X2_append_29 : zfe zqX2_append.i 29 = some (29, .aload_n 0, 1, 0, 0, 0) := rfl
theorem zh_X2_append_30 : zfe zqX2_append.i 30 = some (30, .getfield 15, 3, 2, 1, 0) := rfl
theorem zh_X2_append_33 : zfe zqX2_append.i 33 = some (33, .aload_n 0, 1, 0, 0, 0) := rfl
theorem zh_X2_append_34 : zfe zqX2_append.i 34 = some (34, .getfield 21, 3, 2, 3, 0) := rfl
theorem zh_X2_append_37 : zfe zqX2_append.i 37 = some (37, .iload_n 1, 1, 0, 0, 0) := rfl
theorem zh_X2_append_38 : zfe zqX2_append.i 38 = some (38, .iconst 2, 1, 0, 0, 0) := rfl
theorem zh_X2_append_39 : zfe zqX2_append.i 39 = some (39, .if_icmp .ne 7, 3, 0, 0, 0) := rfl
theorem zh_X2_append_42 : zfe zqX2_append.i 42 = some (42, .iload_n 2, 1, 0, 0, 0) := rfl
theorem zh_X2_append_43 : zfe zqX2_append.i 43 = some (43, .goto 4, 3, 0, 0, 0) := rfl
theorem zh_X2_append_46 : zfe zqX2_append.i 46 = some (46, .iconst 0, 1, 0, 0, 0) := rfl
theorem zh_X2_append_47 : zfe zqX2_append.i 47 = some (47, .iastore, 1, 0, 0, 0) := rfl
theorem zh_X2_append_48 : zfe zqX2_append.i 48 = some (48, .aload_n 0, 1, 0, 0, 0) := rfl
theorem zh_X2_append_49 : zfe zqX2_append.i 49 = some (49, .getfield 18, 3, 2, 2, 0) := rfl
theorem zh_X2_append_52 : zfe zqX2_append.i 52 = some (52, .aload_n 0, 1, 0, 0, 0) := rfl
theorem zh_X2_append_53 : zfe zqX2_append.i 53 = some (53, .getfield 21, 3, 2, 3, 0) := rfl
theorem zh_X2_append_56 : zfe zqX2_append.i 56 = some (56, .iload_n 3, 1, 0, 0, 0) := rfl
theorem zh_X2_append_57 : zfe zqX2_append.i 57 = some (57, .iastore, 1, 0, 0, 0) := rfl
theorem zh_X2_append_58 : zfe zqX2_append.i 58 = some (58, .aload_n 0, 1, 0, 0, 0) := rfl
theorem zh_X2_append_59 : zfe zqX2_append.i 59 = some (59, .dup, 1, 0, 0, 0) := rfl
theorem zh_X2_append_60 : zfe zqX2_append.i 60 = some (60, .getfield 21, 3, 2, 3, 0) := rfl
theorem zh_X2_append_63 : zfe zqX2_append.i 63 = some (63, .iconst 1, 1, 0, 0, 0) := rfl
theorem zh_X2_append_64 : zfe zqX2_append.i 64 = some (64, .iadd, 1, 0, 0, 0) := rfl
theorem zh_X2_append_65 : zfe zqX2_append.i 65 = some (65, .putfield 21, 3, 2, 3, 0) := rfl
theorem zh_X2_append_68 : zfe zqX2_append.i 68 = some (68, .return_, 1, 0, 0, 0) := rfl
theorem ze_X2_append_0 {d : Nat} {f : zF} {m : zM} {x0 : Nat} {a1 a2 a3 : Value} : zex zTb d zqX2_append 0 [.ref x0, a1, a2, a3] [] f m = if zco (f x0) 2 3 = true then zex zTb d zqX2_append 4 [.ref x0, a1, a2, a3] [zcf (f x0) 3] f m else none := (zxl_go (x := (1, [.ref x0, a1, a2, a3], [.ref x0], f, m)) zh_X2_append_0 rfl).trans ((zx_getfield zh_X2_append_1))
theorem ze_X2_append_4 {d : Nat} {f : zF} {m : zM} {a0 a1 a2 a3 : Value} {y0 : Int32} : zex zTb d zqX2_append 4 [a0, a1, a2, a3] [.int y0] f m = if zc1 .lt y0 = true then zex zTb d zqX2_append 68 [a0, a1, a2, a3] [] f m else zex zTb d zqX2_append 7 [a0, a1, a2, a3] [] f m := (zx_if (tgt := 68) zh_X2_append_4 rfl)
theorem ze_X2_append_7 {d : Nat} {f : zF} {m : zM} {x0 : Nat} {a1 a2 a3 : Value} : zex zTb d zqX2_append 7 [.ref x0, a1, a2, a3] [] f m = if zco (f x0) 2 3 = true then zex zTb d zqX2_append 11 [.ref x0, a1, a2, a3] [zcf (f x0) 3] f m else none := (zxl_go (x := (8, [.ref x0, a1, a2, a3], [.ref x0], f, m)) zh_X2_append_7 rfl).trans ((zx_getfield zh_X2_append_8))
theorem ze_X2_append_11 {d : Nat} {f : zF} {m : zM} {x0 : Nat} {a1 a2 a3 : Value} {y0 : Int32} : zex zTb d zqX2_append 11 [.ref x0, a1, a2, a3] [.int y0] f m = if zco (f x0) 2 0 = true then zex zTb d zqX2_append 15 [.ref x0, a1, a2, a3] [zcf (f x0) 0, .int y0] f m else none := (zxl_go (x := (12, [.ref x0, a1, a2, a3], [.ref x0, .int y0], f, m)) zh_X2_append_11 rfl).trans ((zx_getfield zh_X2_append_12))
theorem ze_X2_append_15 {d : Nat} {f : zF} {m : zM} {a0 a1 a2 a3 : Value} {y0 : Int32} {y1 : Nat} : zex zTb d zqX2_append 15 [a0, a1, a2, a3] [.ref y1, .int y0] f m = if zisa (f y1) = true then zex zTb d zqX2_append 16 [a0, a1, a2, a3] [.int (Int32.ofNat (zln (f y1))), .int y0] f m else none := (zx_alen zh_X2_append_15)
theorem ze_X2_append_16 {d : Nat} {f : zF} {m : zM} {a0 a1 a2 a3 : Value} {y0 y1 : Int32} : zex zTb d zqX2_append 16 [a0, a1, a2, a3] [.int y1, .int y0] f m = if zc2 .ge y0 y1 = true then zex zTb d zqX2_append 68 [a0, a1, a2, a3] [] f m else zex zTb d zqX2_append 19 [a0, a1, a2, a3] [] f m := (zx_icmp (tgt := 68) zh_X2_append_16 rfl)
theorem ze_X2_append_19 {d : Nat} {f : zF} {m : zM} {x0 : Nat} {a1 a2 a3 : Value} : zex zTb d zqX2_append 19 [.ref x0, a1, a2, a3] [] f m = if zco (f x0) 2 0 = true then zex zTb d zqX2_append 23 [.ref x0, a1, a2, a3] [zcf (f x0) 0] f m else none := (zxl_go (x := (20, [.ref x0, a1, a2, a3], [.ref x0], f, m)) zh_X2_append_19 rfl).trans ((zx_getfield zh_X2_append_20))
theorem ze_X2_append_23 {d : Nat} {f : zF} {m : zM} {x0 y0 : Nat} {a1 a2 a3 : Value} : zex zTb d zqX2_append 23 [.ref x0, a1, a2, a3] [.ref y0] f m = if zco (f x0) 2 3 = true then zex zTb d zqX2_append 27 [.ref x0, a1, a2, a3] [zcf (f x0) 3, .ref y0] f m else none := (zxl_go (x := (24, [.ref x0, a1, a2, a3], [.ref x0, .ref y0], f, m)) zh_X2_append_23 rfl).trans ((zx_getfield zh_X2_append_24))
theorem ze_X2_append_27 {d : Nat} {f : zF} {m : zM} {a0 a2 a3 : Value} {x1 y1 : Int32} {y0 : Nat} : zex zTb d zqX2_append 27 [a0, .int x1, a2, a3] [.int y1, .ref y0] f m = if zri (f y0) 0 y1 = true then zex zTb d zqX2_append 29 [a0, .int x1, a2, a3] [] (zup f y0 (zwi (f y0) 0 y1.toNatClampNeg x1)) m else none := (zxl_go (x := (28, [a0, .int x1, a2, a3], [.int x1, .int y1, .ref y0], f, m)) zh_X2_append_27 rfl).trans ((zx_iastore zh_X2_append_28))
theorem ze_X2_append_29 {d : Nat} {f : zF} {m : zM} {x0 : Nat} {a1 a2 a3 : Value} : zex zTb d zqX2_append 29 [.ref x0, a1, a2, a3] [] f m = if zco (f x0) 2 1 = true then zex zTb d zqX2_append 33 [.ref x0, a1, a2, a3] [zcf (f x0) 1] f m else none := (zxl_go (x := (30, [.ref x0, a1, a2, a3], [.ref x0], f, m)) zh_X2_append_29 rfl).trans ((zx_getfield zh_X2_append_30))
theorem ze_X2_append_33 {d : Nat} {f : zF} {m : zM} {x0 y0 : Nat} {a1 a2 a3 : Value} : zex zTb d zqX2_append 33 [.ref x0, a1, a2, a3] [.ref y0] f m = if zco (f x0) 2 3 = true then zex zTb d zqX2_append 37 [.ref x0, a1, a2, a3] [zcf (f x0) 3, .ref y0] f m else none := (zxl_go (x := (34, [.ref x0, a1, a2, a3], [.ref x0, .ref y0], f, m)) zh_X2_append_33 rfl).trans ((zx_getfield zh_X2_append_34))
theorem ze_X2_append_37 {d : Nat} {f : zF} {m : zM} {a0 a2 a3 : Value} {x1 y1 : Int32} {y0 : Nat} : zex zTb d zqX2_append 37 [a0, .int x1, a2, a3] [.int y1, .ref y0] f m = if zc2 .ne x1 (I 2) = true then zex zTb d zqX2_append 46 [a0, .int x1, a2, a3] [.int y1, .ref y0] f m else zex zTb d zqX2_append 42 [a0, .int x1, a2, a3] [.int y1, .ref y0] f m := (zxl_go (x := (38, [a0, .int x1, a2, a3], [.int x1, .int y1, .ref y0], f, m)) zh_X2_append_37 rfl).trans ((zx_iconst zh_X2_append_38).trans ((zx_icmp (tgt := 46) zh_X2_append_39 rfl)))
theorem ze_X2_append_42 {d : Nat} {f : zF} {m : zM} {a0 a1 a3 : Value} {x2 y1 : Int32} {y0 : Nat} : zex zTb d zqX2_append 42 [a0, a1, .int x2, a3] [.int y1, .ref y0] f m = if zri (f y0) 0 y1 = true then zex zTb d zqX2_append 48 [a0, a1, .int x2, a3] [] (zup f y0 (zwi (f y0) 0 y1.toNatClampNeg x2)) m else none := (zxl_go (x := (43, [a0, a1, .int x2, a3], [.int x2, .int y1, .ref y0], f, m)) zh_X2_append_42 rfl).trans ((zx_goto zh_X2_append_43 rfl).trans ((zx_iastore zh_X2_append_47)))
theorem ze_X2_append_46 {d : Nat} {f : zF} {m : zM} {a0 a1 a2 a3 : Value} {y0 : Nat} {y1 : Int32} : zex zTb d zqX2_append 46 [a0, a1, a2, a3] [.int y1, .ref y0] f m = if zri (f y0) 0 y1 = true then zex zTb d zqX2_append 48 [a0, a1, a2, a3] [] (zup f y0 (zwi (f y0) 0 y1.toNatClampNeg (I 0))) m else none := (zx_iconst zh_X2_append_46).trans ((zx_iastore zh_X2_append_47))
theorem ze_X2_append_48 {d : Nat} {f : zF} {m : zM} {x0 : Nat} {a1 a2 a3 : Value} : zex zTb d zqX2_append 48 [.ref x0, a1, a2, a3] [] f m = if zco (f x0) 2 2 = true then zex zTb d zqX2_append 52 [.ref x0, a1, a2, a3] [zcf (f x0) 2] f m else none := (zxl_go (x := (49, [.ref x0, a1, a2, a3], [.ref x0], f, m)) zh_X2_append_48 rfl).trans ((zx_getfield zh_X2_append_49))
theorem ze_X2_append_52 {d : Nat} {f : zF} {m : zM} {x0 y0 : Nat} {a1 a2 a3 : Value} : zex zTb d zqX2_append 52 [.ref x0, a1, a2, a3] [.ref y0] f m = if zco (f x0) 2 3 = true then zex zTb d zqX2_append 56 [.ref x0, a1, a2, a3] [zcf (f x0) 3, .ref y0] f m else none := (zxl_go (x := (53, [.ref x0, a1, a2, a3], [.ref x0, .ref y0], f, m)) zh_X2_append_52 rfl).trans ((zx_getfield zh_X2_append_53))
theorem ze_X2_append_56 {d : Nat} {f : zF} {m : zM} {a0 a1 a2 : Value} {x3 y1 : Int32} {y0 : Nat} : zex zTb d zqX2_append 56 [a0, a1, a2, .int x3] [.int y1, .ref y0] f m = if zri (f y0) 0 y1 = true then zex zTb d zqX2_append 58 [a0, a1, a2, .int x3] [] (zup f y0 (zwi (f y0) 0 y1.toNatClampNeg x3)) m else none := (zxl_go (x := (57, [a0, a1, a2, .int x3], [.int x3, .int y1, .ref y0], f, m)) zh_X2_append_56 rfl).trans ((zx_iastore zh_X2_append_57))
theorem ze_X2_append_58 {d : Nat} {f : zF} {m : zM} {x0 : Nat} {a1 a2 a3 : Value} : zex zTb d zqX2_append 58 [.ref x0, a1, a2, a3] [] f m = if zco (f x0) 2 3 = true then zex zTb d zqX2_append 63 [.ref x0, a1, a2, a3] [zcf (f x0) 3, .ref x0] f m else none := (zxl_go (x := (59, [.ref x0, a1, a2, a3], [.ref x0], f, m)) zh_X2_append_58 rfl).trans ((zxl_go (x := (60, [.ref x0, a1, a2, a3], [.ref x0, .ref x0], f, m)) zh_X2_append_59 rfl).trans ((zx_getfield zh_X2_append_60)))
theorem ze_X2_append_63 {d : Nat} {f : zF} {m : zM} {a0 a1 a2 a3 : Value} {y0 : Nat} {y1 : Int32} : zex zTb d zqX2_append 63 [a0, a1, a2, a3] [.int y1, .ref y0] f m = if (zco (f y0) 2 3 && zok (zfty 2 3) (.int (y1 + (I 1)))) = true then zex zTb d zqX2_append 68 [a0, a1, a2, a3] [] (zup f y0 (zcs (f y0) 3 (.int (y1 + (I 1))))) m else none := (zx_iconst zh_X2_append_63).trans ((zxl_go (x := (65, [a0, a1, a2, a3], [.int (y1 + (I 1)), .ref y0], f, m)) zh_X2_append_64 rfl).trans ((zx_putfield zh_X2_append_65)))
theorem ze_X2_append_68 {d : Nat} {f : zF} {m : zM} {a0 a1 a2 a3 : Value} : zex zTb d zqX2_append 68 [a0, a1, a2, a3] [] f m = some (.inl none, f, m) := (zx_ret zh_X2_append_68 rfl)
-- X2_becomeLeaf
theorem zh_X2_becomeLeaf_0 : zfe zqX2_becomeLeaf.i 0 = some (0, .aload_n 0, 1, 0, 0, 0) := rfl
theorem zh_X2_becomeLeaf_1 : zfe zqX2_becomeLeaf.i 1 = some (1, .invokevirtual 29, 3, 16, 1, 2) := rfl
theorem zh_X2_becomeLeaf_4 : zfe zqX2_becomeLeaf.i 4 = some (4, .aload_n 0, 1, 0, 0, 0) := rfl
theorem zh_X2_becomeLeaf_5 : zfe zqX2_becomeLeaf.i 5 = some (5, .iload_n 1, 1, 0, 0, 0) := rfl
theorem zh_X2_becomeLeaf_6 : zfe zqX2_becomeLeaf.i 6 = some (6, .iload_n 2, 1, 0, 0, 0) := rfl
theorem zh_X2_becomeLeaf_7 : zfe zqX2_becomeLeaf.i 7 = some (7, .iconst 1, 1, 0, 0, 0) := rfl
theorem zh_X2_becomeLeaf_8 : zfe zqX2_becomeLeaf.i 8 = some (8, .invokevirtual 32, 3, 17, 4, 2) := rfl
theorem zh_X2_becomeLeaf_11 : zfe zqX2_becomeLeaf.i 11 = some (11, .return_, 1, 0, 0, 0) := rfl
theorem ze_X2_becomeLeaf_0 {d : Nat} {f : zF} {m : zM} {x0 : Nat} {a1 a2 : Value} : zex zTb d zqX2_becomeLeaf 0 [.ref x0, a1, a2] [] f m = if zisc (f x0) 2 = true then zcal zTb (zrun zTb d 16 [.ref x0] f m) d zqX2_becomeLeaf 1 4 [.ref x0, a1, a2] [] else none := (zxl_go (x := (1, [.ref x0, a1, a2], [.ref x0], f, m)) zh_X2_becomeLeaf_0 rfl).trans ((zx_virtual4 zh_X2_becomeLeaf_1 (Nat.le_of_ble_eq_true rfl) rfl rfl (Nat.le_of_ble_eq_true rfl)))
theorem ze_X2_becomeLeaf_4 {d : Nat} {f : zF} {m : zM} {x0 : Nat} {x1 x2 : Int32} : zex zTb d zqX2_becomeLeaf 4 [.ref x0, .int x1, .int x2] [] f m = if zisc (f x0) 2 = true then zcal zTb (zrun zTb d 17 [.ref x0, .int x1, .int x2, .int (I 1)] f m) d zqX2_becomeLeaf 8 11 [.ref x0, .int x1, .int x2] [] else none := (zxl_go (x := (5, [.ref x0, .int x1, .int x2], [.ref x0], f, m)) zh_X2_becomeLeaf_4 rfl).trans ((zxl_go (x := (6, [.ref x0, .int x1, .int x2], [.int x1, .ref x0], f, m)) zh_X2_becomeLeaf_5 rfl).trans ((zxl_go (x := (7, [.ref x0, .int x1, .int x2], [.int x2, .int x1, .ref x0], f, m)) zh_X2_becomeLeaf_6 rfl).trans ((zx_iconst zh_X2_becomeLeaf_7).trans ((zx_virtual4 zh_X2_becomeLeaf_8 (Nat.le_of_ble_eq_true rfl) rfl rfl (Nat.le_of_ble_eq_true rfl))))))
theorem ze_X2_becomeLeaf_11 {d : Nat} {f : zF} {m : zM} {a0 a1 a2 : Value} : zex zTb d zqX2_becomeLeaf 11 [a0, a1, a2] [] f m = some (.inl none, f, m) := (zx_ret zh_X2_becomeLeaf_11 rfl)
-- X2_becomeCopy
theorem zh_X2_becomeCopy_0 : zfe zqX2_becomeCopy.i 0 = some (0, .aload_n 0, 1, 0, 0, 0) := rfl
theorem zh_X2_becomeCopy_1 : zfe zqX2_becomeCopy.i 1 = some (1, .invokevirtual 29, 3, 16, 1, 2) := rfl
theorem zh_X2_becomeCopy_4 : zfe zqX2_becomeCopy.i 4 = some (4, .aload_n 0, 1, 0, 0, 0) := rfl
theorem zh_X2_becomeCopy_5 : zfe zqX2_becomeCopy.i 5 = some (5, .aload_n 1, 1, 0, 0, 0) := rfl
theorem zh_X2_becomeCopy_6 : zfe zqX2_becomeCopy.i 6 = some (6, .invokevirtual 36, 3, 22, 2, 2) := rfl
theorem zh_X2_becomeCopy_9 : zfe zqX2_becomeCopy.i 9 = some (9, .return_, 1, 0, 0, 0) := rfl
theorem ze_X2_becomeCopy_0 {d : Nat} {f : zF} {m : zM} {x0 : Nat} {a1 : Value} : zex zTb d zqX2_becomeCopy 0 [.ref x0, a1] [] f m = if zisc (f x0) 2 = true then zcal zTb (zrun zTb d 16 [.ref x0] f m) d zqX2_becomeCopy 1 4 [.ref x0, a1] [] else none := (zxl_go (x := (1, [.ref x0, a1], [.ref x0], f, m)) zh_X2_becomeCopy_0 rfl).trans ((zx_virtual4 zh_X2_becomeCopy_1 (Nat.le_of_ble_eq_true rfl) rfl rfl (Nat.le_of_ble_eq_true rfl)))
theorem ze_X2_becomeCopy_4 {d : Nat} {f : zF} {m : zM} {x0 x1 : Nat} : zex zTb d zqX2_becomeCopy 4 [.ref x0, .ref x1] [] f m = if zisc (f x0) 2 = true then zcal zTb (zrun zTb d 22 [.ref x0, .ref x1] f m) d zqX2_becomeCopy 6 9 [.ref x0, .ref x1] [] else none := (zxl_go (x := (5, [.ref x0, .ref x1], [.ref x0], f, m)) zh_X2_becomeCopy_4 rfl).trans ((zxl_go (x := (6, [.ref x0, .ref x1], [.ref x1, .ref x0], f, m)) zh_X2_becomeCopy_5 rfl).trans ((zx_virtual4 zh_X2_becomeCopy_6 (Nat.le_of_ble_eq_true rfl) rfl rfl (Nat.le_of_ble_eq_true rfl))))
theorem ze_X2_becomeCopy_9 {d : Nat} {f : zF} {m : zM} {a0 a1 : Value} : zex zTb d zqX2_becomeCopy 9 [a0, a1] [] f m = some (.inl none, f, m) := (zx_ret zh_X2_becomeCopy_9 rfl)
-- X2_becomeWrapped
theorem zh_X2_becomeWrapped_0 : zfe zqX2_becomeWrapped.i 0 = some (0, .aload_n 0, 1, 0, 0, 0) := rfl
theorem zh_X2_becomeWrapped_1 : zfe zqX2_becomeWrapped.i 1 = some (1, .getfield 21, 3, 2, 3, 0) := rfl
theorem zh_X2_becomeWrapped_4 : zfe zqX2_becomeWrapped.i 4 = some (4, .aload_n 0, 1, 0, 0, 0) := rfl
theorem zh_X2_becomeWrapped_5 : zfe zqX2_becomeWrapped.i 5 = some (5, .getfield 9, 3, 2, 0, 0) := rfl
theorem zh_X2_becomeWrapped_8 : zfe zqX2_becomeWrapped.i 8 = some (8, .arraylength, 1, 0, 0, 0) := rfl
theorem zh_X2_becomeWrapped_9 : zfe zqX2_becomeWrapped.i 9 = some (9, .if_icmp .ge 24, 3, 0, 0, 0) := rfl
theorem zh_X2_becomeWrapped_12 : zfe zqX2_becomeWrapped.i 12 = some (12, .aload_n 0, 1, 0, 0, 0) := rfl
theorem zh_X2_becomeWrapped_13 : zfe zqX2_becomeWrapped.i 13 = some (13, .invokevirtual 40, 3, 23, 1, 2) := rfl
theorem zh_X2_becomeWrapped_16 : zfe zqX2_becomeWrapped.i 16 = some (16, .aload_n 0, 1, 0, 0, 0) := rfl
theorem zh_X2_becomeWrapped_17 : zfe zqX2_becomeWrapped.i 17 = some (17, .getfield 9, 3, 2, 0, 0) := rfl
theorem zh_X2_becomeWrapped_20 : zfe zqX2_becomeWrapped.i 20 = some (20, .iconst 0, 1, 0, 0, 0) := rfl
theorem zh_X2_becomeWrapped_21 : zfe zqX2_becomeWrapped.i 21 = some (21, .iload_n 1, 1, 0, 0, 0) := rfl
theorem zh_X2_becomeWrapped_22 : zfe zqX2_becomeWrapped.i 22 = some (22, .iastore, 1, 0, 0, 0) := rfl
theorem zh_X2_becomeWrapped_23 : zfe zqX2_becomeWrapped.i 23 = some (23, .aload_n 0, 1, 0, 0, 0) := rfl
theorem zh_X2_becomeWrapped_24 : zfe zqX2_becomeWrapped.i 24 = some (24, .getfield 18, 3, 2, 2, 0) := rfl
theorem zh_X2_becomeWrapped_27 : zfe zqX2_becomeWrapped.i 27 = some (27, .iconst 0, 1, 0, 0, 0) := rfl
theorem zh_X2_becomeWrapped_28 : zfe zqX2_becomeWrapped.i 28 = some (28, .aload_n 0, 1, 0, 0, 0) := rfl
theorem zh_X2_becomeWrapped_29 : zfe zqX2_becomeWrapped.i 29 = some (29, .getfield 21, 3, 2, 3, 0) := rfl
theorem zh_X2_becomeWrapped_32 : zfe zqX2_becomeWrapped.i 32 = some (32, .iastore, 1, 0, 0, 0) := rfl
theorem zh_X2_becomeWrapped_33 : zfe zqX2_becomeWrapped.i 33 = some (33, .return_, 1, 0, 0, 0) := rfl
theorem ze_X2_becomeWrapped_0 {d : Nat} {f : zF} {m : zM} {x0 : Nat} {a1 : Value} : zex zTb d zqX2_becomeWrapped 0 [.ref x0, a1] [] f m = if zco (f x0) 2 3 = true then zex zTb d zqX2_becomeWrapped 4 [.ref x0, a1] [zcf (f x0) 3] f m else none := (zxl_go (x := (1, [.ref x0, a1], [.ref x0], f, m)) zh_X2_becomeWrapped_0 rfl).trans ((zx_getfield zh_X2_becomeWrapped_1))
theorem ze_X2_becomeWrapped_4 {d : Nat} {f : zF} {m : zM} {x0 : Nat} {a1 : Value} {y0 : Int32} : zex zTb d zqX2_becomeWrapped 4 [.ref x0, a1] [.int y0] f m = if zco (f x0) 2 0 = true then zex zTb d zqX2_becomeWrapped 8 [.ref x0, a1] [zcf (f x0) 0, .int y0] f m else none := (zxl_go (x := (5, [.ref x0, a1], [.ref x0, .int y0], f, m)) zh_X2_becomeWrapped_4 rfl).trans ((zx_getfield zh_X2_becomeWrapped_5))
theorem ze_X2_becomeWrapped_8 {d : Nat} {f : zF} {m : zM} {a0 a1 : Value} {y0 : Int32} {y1 : Nat} : zex zTb d zqX2_becomeWrapped 8 [a0, a1] [.ref y1, .int y0] f m = if zisa (f y1) = true then zex zTb d zqX2_becomeWrapped 9 [a0, a1] [.int (Int32.ofNat (zln (f y1))), .int y0] f m else none := (zx_alen zh_X2_becomeWrapped_8)
theorem ze_X2_becomeWrapped_9 {d : Nat} {f : zF} {m : zM} {a0 a1 : Value} {y0 y1 : Int32} : zex zTb d zqX2_becomeWrapped 9 [a0, a1] [.int y1, .int y0] f m = if zc2 .ge y0 y1 = true then zex zTb d zqX2_becomeWrapped 33 [a0, a1] [] f m else zex zTb d zqX2_becomeWrapped 12 [a0, a1] [] f m := (zx_icmp (tgt := 33) zh_X2_becomeWrapped_9 rfl)
theorem ze_X2_becomeWrapped_12 {d : Nat} {f : zF} {m : zM} {x0 : Nat} {a1 : Value} : zex zTb d zqX2_becomeWrapped 12 [.ref x0, a1] [] f m = if zisc (f x0) 2 = true then zcal zTb (zrun zTb d 23 [.ref x0] f m) d zqX2_becomeWrapped 13 16 [.ref x0, a1] [] else none := (zxl_go (x := (13, [.ref x0, a1], [.ref x0], f, m)) zh_X2_becomeWrapped_12 rfl).trans ((zx_virtual4 zh_X2_becomeWrapped_13 (Nat.le_of_ble_eq_true rfl) rfl rfl (Nat.le_of_ble_eq_true rfl)))
theorem ze_X2_becomeWrapped_16 {d : Nat} {f : zF} {m : zM} {x0 : Nat} {a1 : Value} : zex zTb d zqX2_becomeWrapped 16 [.ref x0, a1] [] f m = if zco (f x0) 2 0 = true then zex zTb d zqX2_becomeWrapped 20 [.ref x0, a1] [zcf (f x0) 0] f m else none := (zxl_go (x := (17, [.ref x0, a1], [.ref x0], f, m)) zh_X2_becomeWrapped_16 rfl).trans ((zx_getfield zh_X2_becomeWrapped_17))
theorem ze_X2_becomeWrapped_20 {d : Nat} {f : zF} {m : zM} {a0 : Value} {x1 : Int32} {y0 : Nat} : zex zTb d zqX2_becomeWrapped 20 [a0, .int x1] [.ref y0] f m = if zri (f y0) 0 (I 0) = true then zex zTb d zqX2_becomeWrapped 23 [a0, .int x1] [] (zup f y0 (zwi (f y0) 0 (I 0).toNatClampNeg x1)) m else none := (zx_iconst zh_X2_becomeWrapped_20).trans ((zxl_go (x := (22, [a0, .int x1], [.int x1, .int (I 0), .ref y0], f, m)) zh_X2_becomeWrapped_21 rfl).trans ((zx_iastore zh_X2_becomeWrapped_22)))
theorem ze_X2_becomeWrapped_23 {d : Nat} {f : zF} {m : zM} {x0 : Nat} {a1 : Value} : zex zTb d zqX2_becomeWrapped 23 [.ref x0, a1] [] f m = if zco (f x0) 2 2 = true then zex zTb d zqX2_becomeWrapped 27 [.ref x0, a1] [zcf (f x0) 2] f m else none := (zxl_go (x := (24, [.ref x0, a1], [.ref x0], f, m)) zh_X2_becomeWrapped_23 rfl).trans ((zx_getfield zh_X2_becomeWrapped_24))
theorem ze_X2_becomeWrapped_27 {d : Nat} {f : zF} {m : zM} {x0 y0 : Nat} {a1 : Value} : zex zTb d zqX2_becomeWrapped 27 [.ref x0, a1] [.ref y0] f m = if zco (f x0) 2 3 = true then zex zTb d zqX2_becomeWrapped 32 [.ref x0, a1] [zcf (f x0) 3, .int (I 0), .ref y0] f m else none := (zx_iconst zh_X2_becomeWrapped_27).trans ((zxl_go (x := (29, [.ref x0, a1], [.ref x0, .int (I 0), .ref y0], f, m)) zh_X2_becomeWrapped_28 rfl).trans ((zx_getfield zh_X2_becomeWrapped_29)))
theorem ze_X2_becomeWrapped_32 {d : Nat} {f : zF} {m : zM} {a0 a1 : Value} {y0 : Nat} {y1 y2 : Int32} : zex zTb d zqX2_becomeWrapped 32 [a0, a1] [.int y2, .int y1, .ref y0] f m = if zri (f y0) 0 y1 = true then zex zTb d zqX2_becomeWrapped 33 [a0, a1] [] (zup f y0 (zwi (f y0) 0 y1.toNatClampNeg y2)) m else none := (zx_iastore zh_X2_becomeWrapped_32)
theorem ze_X2_becomeWrapped_33 {d : Nat} {f : zF} {m : zM} {a0 a1 : Value} : zex zTb d zqX2_becomeWrapped 33 [a0, a1] [] f m = some (.inl none, f, m) := (zx_ret zh_X2_becomeWrapped_33 rfl)
-- X2_becomeJoined
theorem zh_X2_becomeJoined_0 : zfe zqX2_becomeJoined.i 0 = some (0, .aload_n 0, 1, 0, 0, 0) := rfl
theorem zh_X2_becomeJoined_1 : zfe zqX2_becomeJoined.i 1 = some (1, .getfield 21, 3, 2, 3, 0) := rfl
theorem zh_X2_becomeJoined_4 : zfe zqX2_becomeJoined.i 4 = some (4, .aload_n 2, 1, 0, 0, 0) := rfl
theorem zh_X2_becomeJoined_5 : zfe zqX2_becomeJoined.i 5 = some (5, .getfield 21, 3, 2, 3, 0) := rfl
theorem zh_X2_becomeJoined_8 : zfe zqX2_becomeJoined.i 8 = some (8, .iadd, 1, 0, 0, 0) := rfl
theorem zh_X2_becomeJoined_9 : zfe zqX2_becomeJoined.i 9 = some (9, .aload_n 0, 1, 0, 0, 0) := rfl
theorem zh_X2_becomeJoined_10 : zfe zqX2_becomeJoined.i 10 = some (10, .getfield 9, 3, 2, 0, 0) := rfl
theorem zh_X2_becomeJoined_13 : zfe zqX2_becomeJoined.i 13 = some (13, .arraylength, 1, 0, 0, 0) := rfl
theorem zh_X2_becomeJoined_14 : zfe zqX2_becomeJoined.i 14 = some (14, .if_icmp .ge 29, 3, 0, 0, 0) := rfl
theorem zh_X2_becomeJoined_17 : zfe zqX2_becomeJoined.i 17 = some (17, .aload_n 0, 1, 0, 0, 0) := rfl
theorem zh_X2_becomeJoined_18 : zfe zqX2_becomeJoined.i 18 = some (18, .invokevirtual 40, 3, 23, 1, 2) := rfl
theorem zh_X2_becomeJoined_21 : zfe zqX2_becomeJoined.i 21 = some (21, .aload_n 0, 1, 0, 0, 0) := rfl
theorem zh_X2_becomeJoined_22 : zfe zqX2_becomeJoined.i 22 = some (22, .aload_n 2, 1, 0, 0, 0) := rfl
theorem zh_X2_becomeJoined_23 : zfe zqX2_becomeJoined.i 23 = some (23, .invokevirtual 36, 3, 22, 2, 2) := rfl
theorem zh_X2_becomeJoined_26 : zfe zqX2_becomeJoined.i 26 = some (26, .aload_n 0, 1, 0, 0, 0) := rfl
theorem zh_X2_becomeJoined_27 : zfe zqX2_becomeJoined.i 27 = some (27, .getfield 9, 3, 2, 0, 0) := rfl
theorem zh_X2_becomeJoined_30 : zfe zqX2_becomeJoined.i 30 = some (30, .iconst 0, 1, 0, 0, 0) := rfl
theorem zh_X2_becomeJoined_31 : zfe zqX2_becomeJoined.i 31 = some (31, .iload_n 1, 1, 0, 0, 0) := rfl
theorem zh_X2_becomeJoined_32 : zfe zqX2_becomeJoined.i 32 = some (32, .iastore, 1, 0, 0, 0) := rfl
theorem zh_X2_becomeJoined_33 : zfe zqX2_becomeJoined.i 33 = some (33, .aload_n 0, 1, 0, 0, 0) := rfl
theorem zh_X2_becomeJoined_34 : zfe zqX2_becomeJoined.i 34 = some (34, .getfield 18, 3, 2, 2, 0) := rfl
theorem zh_X2_becomeJoined_37 : zfe zqX2_becomeJoined.i 37 = some (37, .iconst 0, 1, 0, 0, 0) := rfl
theorem zh_X2_becomeJoined_38 : zfe zqX2_becomeJoined.i 38 = some (38, .aload_n 0, 1, 0, 0, 0) := rfl
theorem zh_X2_becomeJoined_39 : zfe zqX2_becomeJoined.i 39 = some (39, .getfield 21, 3, 2, 3, 0) := rfl
theorem zh_X2_becomeJoined_42 : zfe zqX2_becomeJoined.i 42 = some (42, .iastore, 1, 0, 0, 0) := rfl
theorem zh_X2_becomeJoined_43 : zfe zqX2_becomeJoined.i 43 = some (43, .return_, 1, 0, 0, 0) := rfl
theorem ze_X2_becomeJoined_0 {d : Nat} {f : zF} {m : zM} {x0 : Nat} {a1 a2 : Value} : zex zTb d zqX2_becomeJoined 0 [.ref x0, a1, a2] [] f m = if zco (f x0) 2 3 = true then zex zTb d zqX2_becomeJoined 4 [.ref x0, a1, a2] [zcf (f x0) 3] f m else none := (zxl_go (x := (1, [.ref x0, a1, a2], [.ref x0], f, m)) zh_X2_becomeJoined_0 rfl).trans ((zx_getfield zh_X2_becomeJoined_1))
theorem ze_X2_becomeJoined_4 {d : Nat} {f : zF} {m : zM} {a0 a1 : Value} {x2 : Nat} {y0 : Int32} : zex zTb d zqX2_becomeJoined 4 [a0, a1, .ref x2] [.int y0] f m = if zco (f x2) 2 3 = true then zex zTb d zqX2_becomeJoined 8 [a0, a1, .ref x2] [zcf (f x2) 3, .int y0] f m else none := (zxl_go (x := (5, [a0, a1, .ref x2], [.ref x2, .int y0], f, m)) zh_X2_becomeJoined_4 rfl).trans ((zx_getfield zh_X2_becomeJoined_5))
theorem ze_X2_becomeJoined_8 {d : Nat} {f : zF} {m : zM} {x0 : Nat} {a1 a2 : Value} {y0 y1 : Int32} : zex zTb d zqX2_becomeJoined 8 [.ref x0, a1, a2] [.int y1, .int y0] f m = if zco (f x0) 2 0 = true then zex zTb d zqX2_becomeJoined 13 [.ref x0, a1, a2] [zcf (f x0) 0, .int (y0 + y1)] f m else none := (zxl_go (x := (9, [.ref x0, a1, a2], [.int (y0 + y1)], f, m)) zh_X2_becomeJoined_8 rfl).trans ((zxl_go (x := (10, [.ref x0, a1, a2], [.ref x0, .int (y0 + y1)], f, m)) zh_X2_becomeJoined_9 rfl).trans ((zx_getfield zh_X2_becomeJoined_10)))
theorem ze_X2_becomeJoined_13 {d : Nat} {f : zF} {m : zM} {a0 a1 a2 : Value} {y0 : Int32} {y1 : Nat} : zex zTb d zqX2_becomeJoined 13 [a0, a1, a2] [.ref y1, .int y0] f m = if zisa (f y1) = true then zex zTb d zqX2_becomeJoined 14 [a0, a1, a2] [.int (Int32.ofNat (zln (f y1))), .int y0] f m else none := (zx_alen zh_X2_becomeJoined_13)
theorem ze_X2_becomeJoined_14 {d : Nat} {f : zF} {m : zM} {a0 a1 a2 : Value} {y0 y1 : Int32} : zex zTb d zqX2_becomeJoined 14 [a0, a1, a2] [.int y1, .int y0] f m = if zc2 .ge y0 y1 = true then zex zTb d zqX2_becomeJoined 43 [a0, a1, a2] [] f m else zex zTb d zqX2_becomeJoined 17 [a0, a1, a2] [] f m := (zx_icmp (tgt := 43) zh_X2_becomeJoined_14 rfl)
theorem ze_X2_becomeJoined_17 {d : Nat} {f : zF} {m : zM} {x0 : Nat} {a1 a2 : Value} : zex zTb d zqX2_becomeJoined 17 [.ref x0, a1, a2] [] f m = if zisc (f x0) 2 = true then zcal zTb (zrun zTb d 23 [.ref x0] f m) d zqX2_becomeJoined 18 21 [.ref x0, a1, a2] [] else none := (zxl_go (x := (18, [.ref x0, a1, a2], [.ref x0], f, m)) zh_X2_becomeJoined_17 rfl).trans ((zx_virtual4 zh_X2_becomeJoined_18 (Nat.le_of_ble_eq_true rfl) rfl rfl (Nat.le_of_ble_eq_true rfl)))
theorem ze_X2_becomeJoined_21 {d : Nat} {f : zF} {m : zM} {x0 x2 : Nat} {a1 : Value} : zex zTb d zqX2_becomeJoined 21 [.ref x0, a1, .ref x2] [] f m = if zisc (f x0) 2 = true then zcal zTb (zrun zTb d 22 [.ref x0, .ref x2] f m) d zqX2_becomeJoined 23 26 [.ref x0, a1, .ref x2] [] else none := (zxl_go (x := (22, [.ref x0, a1, .ref x2], [.ref x0], f, m)) zh_X2_becomeJoined_21 rfl).trans ((zxl_go (x := (23, [.ref x0, a1, .ref x2], [.ref x2, .ref x0], f, m)) zh_X2_becomeJoined_22 rfl).trans ((zx_virtual4 zh_X2_becomeJoined_23 (Nat.le_of_ble_eq_true rfl) rfl rfl (Nat.le_of_ble_eq_true rfl))))
theorem ze_X2_becomeJoined_26 {d : Nat} {f : zF} {m : zM} {x0 : Nat} {a1 a2 : Value} : zex zTb d zqX2_becomeJoined 26 [.ref x0, a1, a2] [] f m = if zco (f x0) 2 0 = true then zex zTb d zqX2_becomeJoined 30 [.ref x0, a1, a2] [zcf (f x0) 0] f m else none := (zxl_go (x := (27, [.ref x0, a1, a2], [.ref x0], f, m)) zh_X2_becomeJoined_26 rfl).trans ((zx_getfield zh_X2_becomeJoined_27))
theorem ze_X2_becomeJoined_30 {d : Nat} {f : zF} {m : zM} {a0 a2 : Value} {x1 : Int32} {y0 : Nat} : zex zTb d zqX2_becomeJoined 30 [a0, .int x1, a2] [.ref y0] f m = if zri (f y0) 0 (I 0) = true then zex zTb d zqX2_becomeJoined 33 [a0, .int x1, a2] [] (zup f y0 (zwi (f y0) 0 (I 0).toNatClampNeg x1)) m else none := (zx_iconst zh_X2_becomeJoined_30).trans ((zxl_go (x := (32, [a0, .int x1, a2], [.int x1, .int (I 0), .ref y0], f, m)) zh_X2_becomeJoined_31 rfl).trans ((zx_iastore zh_X2_becomeJoined_32)))
theorem ze_X2_becomeJoined_33 {d : Nat} {f : zF} {m : zM} {x0 : Nat} {a1 a2 : Value} : zex zTb d zqX2_becomeJoined 33 [.ref x0, a1, a2] [] f m = if zco (f x0) 2 2 = true then zex zTb d zqX2_becomeJoined 37 [.ref x0, a1, a2] [zcf (f x0) 2] f m else none := (zxl_go (x := (34, [.ref x0, a1, a2], [.ref x0], f, m)) zh_X2_becomeJoined_33 rfl).trans ((zx_getfield zh_X2_becomeJoined_34))
theorem ze_X2_becomeJoined_37 {d : Nat} {f : zF} {m : zM} {x0 y0 : Nat} {a1 a2 : Value} : zex zTb d zqX2_becomeJoined 37 [.ref x0, a1, a2] [.ref y0] f m = if zco (f x0) 2 3 = true then zex zTb d zqX2_becomeJoined 42 [.ref x0, a1, a2] [zcf (f x0) 3, .int (I 0), .ref y0] f m else none := (zx_iconst zh_X2_becomeJoined_37).trans ((zxl_go (x := (39, [.ref x0, a1, a2], [.ref x0, .int (I 0), .ref y0], f, m)) zh_X2_becomeJoined_38 rfl).trans ((zx_getfield zh_X2_becomeJoined_39)))
theorem ze_X2_becomeJoined_42 {d : Nat} {f : zF} {m : zM} {a0 a1 a2 : Value} {y0 : Nat} {y1 y2 : Int32} : zex zTb d zqX2_becomeJoined 42 [a0, a1, a2] [.int y2, .int y1, .ref y0] f m = if zri (f y0) 0 y1 = true then zex zTb d zqX2_becomeJoined 43 [a0, a1, a2] [] (zup f y0 (zwi (f y0) 0 y1.toNatClampNeg y2)) m else none := (zx_iastore zh_X2_becomeJoined_42)
theorem ze_X2_becomeJoined_43 {d : Nat} {f : zF} {m : zM} {a0 a1 a2 : Value} : zex zTb d zqX2_becomeJoined 43 [a0, a1, a2] [] f m = some (.inl none, f, m) := (zx_ret zh_X2_becomeJoined_43 rfl)
-- X2_appendAll
theorem zh_X2_appendAll_0 : zfe zqX2_appendAll.i 0 = some (0, .iconst 0, 1, 0, 0, 0) := rfl
theorem zh_X2_appendAll_1 : zfe zqX2_appendAll.i 1 = some (1, .istore_n 2, 1, 0, 0, 0) := rfl
theorem zh_X2_appendAll_2 : zfe zqX2_appendAll.i 2 = some (2, .iload_n 2, 1, 0, 0, 0) := rfl
theorem zh_X2_appendAll_3 : zfe zqX2_appendAll.i 3 = some (3, .aload_n 1, 1, 0, 0, 0) := rfl
theorem zh_X2_appendAll_4 : zfe zqX2_appendAll.i 4 = some (4, .getfield 21, 3, 2, 3, 0) := rfl
theorem zh_X2_appendAll_7 : zfe zqX2_appendAll.i 7 = some (7, .if_icmp .ge 31, 3, 0, 0, 0) := rfl
theorem zh_X2_appendAll_10 : zfe zqX2_appendAll.i 10 = some (10, .aload_n 0, 1, 0, 0, 0) := rfl
theorem zh_X2_appendAll_11 : zfe zqX2_appendAll.i 11 = some (11, .aload_n 1, 1, 0, 0, 0) := rfl
theorem zh_X2_appendAll_12 : zfe zqX2_appendAll.i 12 = some (12, .getfield 9, 3, 2, 0, 0) := rfl
theorem zh_X2_appendAll_15 : zfe zqX2_appendAll.i 15 = some (15, .iload_n 2, 1, 0, 0, 0) := rfl
theorem zh_X2_appendAll_16 : zfe zqX2_appendAll.i 16 = some (16, .iaload, 1, 0, 0, 0) := rfl
theorem zh_X2_appendAll_17 : zfe zqX2_appendAll.i 17 = some (17, .aload_n 1, 1, 0, 0, 0) := rfl
theorem zh_X2_appendAll_18 : zfe zqX2_appendAll.i 18 = some (18, .getfield 15, 3, 2, 1, 0) := rfl
theorem zh_X2_appendAll_21 : zfe zqX2_appendAll.i 21 = some (21, .iload_n 2, 1, 0, 0, 0) := rfl
theorem zh_X2_appendAll_22 : zfe zqX2_appendAll.i 22 = some (22, .iaload, 1, 0, 0, 0) := rfl
theorem zh_X2_appendAll_23 : zfe zqX2_appendAll.i 23 = some (23, .aload_n 1, 1, 0, 0, 0) := rfl
theorem zh_X2_appendAll_24 : zfe zqX2_appendAll.i 24 = some (24, .getfield 18, 3, 2, 2, 0) := rfl
theorem zh_X2_appendAll_27 : zfe zqX2_appendAll.i 27 = some (27, .iload_n 2, 1, 0, 0, 0) := rfl
theorem zh_X2_appendAll_28 : zfe zqX2_appendAll.i 28 = some (28, .iaload, 1, 0, 0, 0) := rfl
theorem zh_X2_appendAll_29 : zfe zqX2_appendAll.i 29 = some (29, .invokevirtual 32, 3, 17, 4, 2) := rfl
theorem zh_X2_appendAll_32 : zfe zqX2_appendAll.i 32 = some (32, .iinc 2 1, 3, 0, 0, 0) := rfl
theorem zh_X2_appendAll_35 : zfe zqX2_appendAll.i 35 = some (35, .goto (-33), 3, 0, 0, 0) := rfl
theorem zh_X2_appendAll_38 : zfe zqX2_appendAll.i 38 = some (38, .return_, 1, 0, 0, 0) := rfl
theorem ze_X2_appendAll_0 {d : Nat} {f : zF} {m : zM} {a0 a1 a2 : Value} : zex zTb d zqX2_appendAll 0 [a0, a1, a2] [] f m = zex zTb d zqX2_appendAll 2 [a0, (zclr a1), .int (I 0)] [] f m := (zx_iconst zh_X2_appendAll_0).trans ((zxl_go (x := (2, [a0, (zclr a1), .int (I 0)], [], f, m)) zh_X2_appendAll_1 rfl))
theorem ze_X2_appendAll_2 {d : Nat} {f : zF} {m : zM} {a0 : Value} {x1 : Nat} {x2 : Int32} : zex zTb d zqX2_appendAll 2 [a0, .ref x1, .int x2] [] f m = if zco (f x1) 2 3 = true then zex zTb d zqX2_appendAll 7 [a0, .ref x1, .int x2] [zcf (f x1) 3, .int x2] f m else none := (zxl_go (x := (3, [a0, .ref x1, .int x2], [.int x2], f, m)) zh_X2_appendAll_2 rfl).trans ((zxl_go (x := (4, [a0, .ref x1, .int x2], [.ref x1, .int x2], f, m)) zh_X2_appendAll_3 rfl).trans ((zx_getfield zh_X2_appendAll_4)))
theorem ze_X2_appendAll_7 {d : Nat} {f : zF} {m : zM} {a0 a1 a2 : Value} {y0 y1 : Int32} : zex zTb d zqX2_appendAll 7 [a0, a1, a2] [.int y1, .int y0] f m = if zc2 .ge y0 y1 = true then zex zTb d zqX2_appendAll 38 [a0, a1, a2] [] f m else zex zTb d zqX2_appendAll 10 [a0, a1, a2] [] f m := (zx_icmp (tgt := 38) zh_X2_appendAll_7 rfl)
theorem ze_X2_appendAll_10 {d : Nat} {f : zF} {m : zM} {x0 x1 : Nat} {a2 : Value} : zex zTb d zqX2_appendAll 10 [.ref x0, .ref x1, a2] [] f m = if zco (f x1) 2 0 = true then zex zTb d zqX2_appendAll 15 [.ref x0, .ref x1, a2] [zcf (f x1) 0, .ref x0] f m else none := (zxl_go (x := (11, [.ref x0, .ref x1, a2], [.ref x0], f, m)) zh_X2_appendAll_10 rfl).trans ((zxl_go (x := (12, [.ref x0, .ref x1, a2], [.ref x1, .ref x0], f, m)) zh_X2_appendAll_11 rfl).trans ((zx_getfield zh_X2_appendAll_12)))
theorem ze_X2_appendAll_15 {d : Nat} {f : zF} {m : zM} {a0 a1 : Value} {x2 : Int32} {y0 y1 : Nat} : zex zTb d zqX2_appendAll 15 [a0, a1, .int x2] [.ref y1, .ref y0] f m = if zr8 (f y1) x2 = true then zex zTb d zqX2_appendAll 17 [a0, a1, .int x2] [.int (zgi (f y1) x2.toNatClampNeg), .ref y0] f m else none := (zxl_go (x := (16, [a0, a1, .int x2], [.int x2, .ref y1, .ref y0], f, m)) zh_X2_appendAll_15 rfl).trans ((zx_iaload zh_X2_appendAll_16))
theorem ze_X2_appendAll_17 {d : Nat} {f : zF} {m : zM} {a0 a2 : Value} {x1 y0 : Nat} {y1 : Int32} : zex zTb d zqX2_appendAll 17 [a0, .ref x1, a2] [.int y1, .ref y0] f m = if zco (f x1) 2 1 = true then zex zTb d zqX2_appendAll 21 [a0, .ref x1, a2] [zcf (f x1) 1, .int y1, .ref y0] f m else none := (zxl_go (x := (18, [a0, .ref x1, a2], [.ref x1, .int y1, .ref y0], f, m)) zh_X2_appendAll_17 rfl).trans ((zx_getfield zh_X2_appendAll_18))
theorem ze_X2_appendAll_21 {d : Nat} {f : zF} {m : zM} {a0 a1 : Value} {x2 y1 : Int32} {y0 y2 : Nat} : zex zTb d zqX2_appendAll 21 [a0, a1, .int x2] [.ref y2, .int y1, .ref y0] f m = if zr8 (f y2) x2 = true then zex zTb d zqX2_appendAll 23 [a0, a1, .int x2] [.int (zgi (f y2) x2.toNatClampNeg), .int y1, .ref y0] f m else none := (zxl_go (x := (22, [a0, a1, .int x2], [.int x2, .ref y2, .int y1, .ref y0], f, m)) zh_X2_appendAll_21 rfl).trans ((zx_iaload zh_X2_appendAll_22))
theorem ze_X2_appendAll_23 {d : Nat} {f : zF} {m : zM} {a0 a2 : Value} {x1 y0 : Nat} {y1 y2 : Int32} : zex zTb d zqX2_appendAll 23 [a0, .ref x1, a2] [.int y2, .int y1, .ref y0] f m = if zco (f x1) 2 2 = true then zex zTb d zqX2_appendAll 27 [a0, .ref x1, a2] [zcf (f x1) 2, .int y2, .int y1, .ref y0] f m else none := (zxl_go (x := (24, [a0, .ref x1, a2], [.ref x1, .int y2, .int y1, .ref y0], f, m)) zh_X2_appendAll_23 rfl).trans ((zx_getfield zh_X2_appendAll_24))
theorem ze_X2_appendAll_27 {d : Nat} {f : zF} {m : zM} {a0 a1 : Value} {x2 y1 y2 : Int32} {y0 y3 : Nat} : zex zTb d zqX2_appendAll 27 [a0, a1, .int x2] [.ref y3, .int y2, .int y1, .ref y0] f m = if zr8 (f y3) x2 = true then zex zTb d zqX2_appendAll 29 [a0, a1, .int x2] [.int (zgi (f y3) x2.toNatClampNeg), .int y2, .int y1, .ref y0] f m else none := (zxl_go (x := (28, [a0, a1, .int x2], [.int x2, .ref y3, .int y2, .int y1, .ref y0], f, m)) zh_X2_appendAll_27 rfl).trans ((zx_iaload zh_X2_appendAll_28))
theorem ze_X2_appendAll_29 {d : Nat} {f : zF} {m : zM} {a0 a1 a2 : Value} {y0 : Nat} {y1 y2 y3 : Int32} : zex zTb d zqX2_appendAll 29 [a0, a1, a2] [.int y3, .int y2, .int y1, .ref y0] f m = if zisc (f y0) 2 = true then zcal zTb (zrun zTb d 17 [.ref y0, .int y1, .int y2, .int y3] f m) d zqX2_appendAll 29 32 [a0, a1, a2] [] else none := (zx_virtual4 zh_X2_appendAll_29 (Nat.le_of_ble_eq_true rfl) rfl rfl (Nat.le_of_ble_eq_true rfl))
theorem ze_X2_appendAll_32 {d : Nat} {f : zF} {m : zM} {a0 a1 : Value} {x2 : Int32} : zex zTb d zqX2_appendAll 32 [a0, a1, .int x2] [] f m = zex zTb d zqX2_appendAll 2 [a0, (zclr a1), .int (x2 + I 1)] [] f m := (zxl_go (x := (35, [a0, (zclr a1), .int (x2 + I 1)], [], f, m)) zh_X2_appendAll_32 rfl).trans ((zx_goto zh_X2_appendAll_35 rfl))
theorem ze_X2_appendAll_38 {d : Nat} {f : zF} {m : zM} {a0 a1 a2 : Value} : zex zTb d zqX2_appendAll 38 [a0, a1, a2] [] f m = some (.inl none, f, m) := (zx_ret zh_X2_appendAll_38 rfl)
-- X2_makeRoomAhead
theorem zh_X2_makeRoomAhead_0 : zfe zqX2_makeRoomAhead.i 0 = some (0, .aload_n 0, 1, 0, 0, 0) := rfl
theorem zh_X2_makeRoomAhead_1 : zfe zqX2_makeRoomAhead.i 1 = some (1, .getfield 21, 3, 2, 3, 0) := rfl
theorem zh_X2_makeRoomAhead_4 : zfe zqX2_makeRoomAhead.i 4 = some (4, .istore_n 1, 1, 0, 0, 0) := rfl
theorem zh_X2_makeRoomAhead_5 : zfe zqX2_makeRoomAhead.i 5 = some (5, .iload_n 1, 1, 0, 0, 0) := rfl
theorem zh_X2_makeRoomAhead_6 : zfe zqX2_makeRoomAhead.i 6 = some (6, .ifCond .le 60, 3, 0, 0, 0) := rfl
theorem zh_X2_makeRoomAhead_9 : zfe zqX2_makeRoomAhead.i 9 = some (9, .iload_n 1, 1, 0, 0, 0) := rfl
theorem zh_X2_makeRoomAhead_10 : zfe zqX2_makeRoomAhead.i 10 = some (10, .aload_n 0, 1, 0, 0, 0) := rfl
theorem zh_X2_makeRoomAhead_11 : zfe zqX2_makeRoomAhead.i 11 = some (11, .getfield 9, 3, 2, 0, 0) := rfl
theorem zh_X2_makeRoomAhead_14 : zfe zqX2_makeRoomAhead.i 14 = some (14, .arraylength, 1, 0, 0, 0) := rfl
theorem zh_X2_makeRoomAhead_15 : zfe zqX2_makeRoomAhead.i 15 = some (15, .if_icmp .ge 51, 3, 0, 0, 0) := rfl
theorem zh_X2_makeRoomAhead_18 : zfe zqX2_makeRoomAhead.i 18 = some (18, .aload_n 0, 1, 0, 0, 0) := rfl
theorem zh_X2_makeRoomAhead_19 : zfe zqX2_makeRoomAhead.i 19 = some (19, .getfield 9, 3, 2, 0, 0) := rfl
theorem zh_X2_makeRoomAhead_22 : zfe zqX2_makeRoomAhead.i 22 = some (22, .iload_n 1, 1, 0, 0, 0) := rfl
theorem zh_X2_makeRoomAhead_23 : zfe zqX2_makeRoomAhead.i 23 = some (23, .aload_n 0, 1, 0, 0, 0) := rfl
theorem zh_X2_makeRoomAhead_24 : zfe zqX2_makeRoomAhead.i 24 = some (24, .getfield 9, 3, 2, 0, 0) := rfl
theorem zh_X2_makeRoomAhead_27 : zfe zqX2_makeRoomAhead.i 27 = some (27, .iload_n 1, 1, 0, 0, 0) := rfl
theorem zh_X2_makeRoomAhead_28 : zfe zqX2_makeRoomAhead.i 28 = some (28, .iconst 1, 1, 0, 0, 0) := rfl
theorem zh_X2_makeRoomAhead_29 : zfe zqX2_makeRoomAhead.i 29 = some (29, .isub, 1, 0, 0, 0) := rfl
theorem zh_X2_makeRoomAhead_30 : zfe zqX2_makeRoomAhead.i 30 = some (30, .iaload, 1, 0, 0, 0) := rfl
theorem zh_X2_makeRoomAhead_31 : zfe zqX2_makeRoomAhead.i 31 = some (31, .iastore, 1, 0, 0, 0) := rfl
theorem zh_X2_makeRoomAhead_32 : zfe zqX2_makeRoomAhead.i 32 = some (32, .aload_n 0, 1, 0, 0, 0) := rfl
theorem zh_X2_makeRoomAhead_33 : zfe zqX2_makeRoomAhead.i 33 = some (33, .getfield 15, 3, 2, 1, 0) := rfl
theorem zh_X2_makeRoomAhead_36 : zfe zqX2_makeRoomAhead.i 36 = some (36, .iload_n 1, 1, 0, 0, 0) := rfl
theorem zh_X2_makeRoomAhead_37 : zfe zqX2_makeRoomAhead.i 37 = some (37, .aload_n 0, 1, 0, 0, 0) := rfl
theorem zh_X2_makeRoomAhead_38 : zfe zqX2_makeRoomAhead.i 38 = some (38, .getfield 15, 3, 2, 1, 0) := rfl
theorem zh_X2_makeRoomAhead_41 : zfe zqX2_makeRoomAhead.i 41 = some (41, .iload_n 1, 1, 0, 0, 0) := rfl
theorem zh_X2_makeRoomAhead_42 : zfe zqX2_makeRoomAhead.i 42 = some (42, .iconst 1, 1, 0, 0, 0) := rfl
theorem zh_X2_makeRoomAhead_43 : zfe zqX2_makeRoomAhead.i 43 = some (43, .isub, 1, 0, 0, 0) := rfl
theorem zh_X2_makeRoomAhead_44 : zfe zqX2_makeRoomAhead.i 44 = some (44, .iaload, 1, 0, 0, 0) := rfl
theorem zh_X2_makeRoomAhead_45 : zfe zqX2_makeRoomAhead.i 45 = some (45, .iastore, 1, 0, 0, 0) := rfl
theorem zh_X2_makeRoomAhead_46 : zfe zqX2_makeRoomAhead.i 46 = some (46, .aload_n 0, 1, 0, 0, 0) := rfl
theorem zh_X2_makeRoomAhead_47 : zfe zqX2_makeRoomAhead.i 47 = some (47, .getfield 18, 3, 2, 2, 0) := rfl
theorem zh_X2_makeRoomAhead_50 : zfe zqX2_makeRoomAhead.i 50 = some (50, .iload_n 1, 1, 0, 0, 0) := rfl
theorem zh_X2_makeRoomAhead_51 : zfe zqX2_makeRoomAhead.i 51 = some (51, .aload_n 0, 1, 0, 0, 0) := rfl
theorem zh_X2_makeRoomAhead_52 : zfe zqX2_makeRoomAhead.i 52 = some (52, .getfield 18, 3, 2, 2, 0) := rfl
theorem zh_X2_makeRoomAhead_55 : zfe zqX2_makeRoomAhead.i 55 = some (55, .iload_n 1, 1, 0, 0, 0) := rfl
theorem zh_X2_makeRoomAhead_56 : zfe zqX2_makeRoomAhead.i 56 = some (56, .iconst 1, 1, 0, 0, 0) := rfl
theorem zh_X2_makeRoomAhead_57 : zfe zqX2_makeRoomAhead.i 57 = some (57, .isub, 1, 0, 0, 0) := rfl
theorem zh_X2_makeRoomAhead_58 : zfe zqX2_makeRoomAhead.i 58 = some (58, .iaload, 1, 0, 0, 0) := rfl
theorem zh_X2_makeRoomAhead_59 : zfe zqX2_makeRoomAhead.i 59 = some (59, .iastore, 1, 0, 0, 0) := rfl
theorem zh_X2_makeRoomAhead_60 : zfe zqX2_makeRoomAhead.i 60 = some (60, .iinc 1 (-1), 3, 0, 0, 0) := rfl
theorem zh_X2_makeRoomAhead_63 : zfe zqX2_makeRoomAhead.i 63 = some (63, .goto (-58), 3, 0, 0, 0) := rfl
theorem zh_X2_makeRoomAhead_66 : zfe zqX2_makeRoomAhead.i 66 = some (66, .aload_n 0, 1, 0, 0, 0) := rfl
theorem zh_X2_makeRoomAhead_67 : zfe zqX2_makeRoomAhead.i 67 = some (67, .getfield 15, 3, 2, 1, 0) := rfl
theorem zh_X2_makeRoomAhead_70 : zfe zqX2_makeRoomAhead.i 70 = some (70, .iconst 0, 1, 0, 0, 0) := rfl
theorem zh_X2_makeRoomAhead_71 : zfe zqX2_makeRoomAhead.i 71 = some (71, .iconst 0, 1, 0, 0, 0) := rfl
theorem zh_X2_makeRoomAhead_72 : zfe zqX2_makeRoomAhead.i 72 = some (72, .iastore, 1, 0, 0, 0) := rfl
theorem zh_X2_makeRoomAhead_73 : zfe zqX2_makeRoomAhead.i 73 = some (73, .aload_n 0, 1, 0, 0, 0) := rfl
theorem zh_X2_makeRoomAhead_74 : zfe zqX2_makeRoomAhead.i 74 = some (74, .dup, 1, 0, 0, 0) := rfl
theorem zh_X2_makeRoomAhead_75 : zfe zqX2_makeRoomAhead.i 75 = some (75, .getfield 21, 3, 2, 3, 0) := rfl
theorem zh_X2_makeRoomAhead_78 : zfe zqX2_makeRoomAhead.i 78 = some (78, .iconst 1, 1, 0, 0, 0) := rfl
theorem zh_X2_makeRoomAhead_79 : zfe zqX2_makeRoomAhead.i 79 = some (79, .iadd, 1, 0, 0, 0) := rfl
theorem zh_X2_makeRoomAhead_80 : zfe zqX2_makeRoomAhead.i 80 = some (80, .putfield 21, 3, 2, 3, 0) := rfl
theorem zh_X2_makeRoomAhead_83 : zfe zqX2_makeRoomAhead.i 83 = some (83, .return_, 1, 0, 0, 0) := rfl
theorem ze_X2_makeRoomAhead_0 {d : Nat} {f : zF} {m : zM} {x0 : Nat} {a1 : Value} : zex zTb d zqX2_makeRoomAhead 0 [.ref x0, a1] [] f m = if zco (f x0) 2 3 = true then zex zTb d zqX2_makeRoomAhead 4 [.ref x0, a1] [zcf (f x0) 3] f m else none := (zxl_go (x := (1, [.ref x0, a1], [.ref x0], f, m)) zh_X2_makeRoomAhead_0 rfl).trans ((zx_getfield zh_X2_makeRoomAhead_1))
theorem ze_X2_makeRoomAhead_4 {d : Nat} {f : zF} {m : zM} {a0 a1 : Value} {y0 : Int32} : zex zTb d zqX2_makeRoomAhead 4 [a0, a1] [.int y0] f m = zex zTb d zqX2_makeRoomAhead 5 [(zclr a0), .int y0] [] f m := (zxl_go (x := (5, [(zclr a0), .int y0], [], f, m)) zh_X2_makeRoomAhead_4 rfl)
theorem ze_X2_makeRoomAhead_5 {d : Nat} {f : zF} {m : zM} {a0 : Value} {x1 : Int32} : zex zTb d zqX2_makeRoomAhead 5 [a0, .int x1] [] f m = if zc1 .le x1 = true then zex zTb d zqX2_makeRoomAhead 66 [a0, .int x1] [] f m else zex zTb d zqX2_makeRoomAhead 9 [a0, .int x1] [] f m := (zxl_go (x := (6, [a0, .int x1], [.int x1], f, m)) zh_X2_makeRoomAhead_5 rfl).trans ((zx_if (tgt := 66) zh_X2_makeRoomAhead_6 rfl))
theorem ze_X2_makeRoomAhead_9 {d : Nat} {f : zF} {m : zM} {x0 : Nat} {x1 : Int32} : zex zTb d zqX2_makeRoomAhead 9 [.ref x0, .int x1] [] f m = if zco (f x0) 2 0 = true then zex zTb d zqX2_makeRoomAhead 14 [.ref x0, .int x1] [zcf (f x0) 0, .int x1] f m else none := (zxl_go (x := (10, [.ref x0, .int x1], [.int x1], f, m)) zh_X2_makeRoomAhead_9 rfl).trans ((zxl_go (x := (11, [.ref x0, .int x1], [.ref x0, .int x1], f, m)) zh_X2_makeRoomAhead_10 rfl).trans ((zx_getfield zh_X2_makeRoomAhead_11)))
theorem ze_X2_makeRoomAhead_14 {d : Nat} {f : zF} {m : zM} {a0 a1 : Value} {y0 : Int32} {y1 : Nat} : zex zTb d zqX2_makeRoomAhead 14 [a0, a1] [.ref y1, .int y0] f m = if zisa (f y1) = true then zex zTb d zqX2_makeRoomAhead 15 [a0, a1] [.int (Int32.ofNat (zln (f y1))), .int y0] f m else none := (zx_alen zh_X2_makeRoomAhead_14)
theorem ze_X2_makeRoomAhead_15 {d : Nat} {f : zF} {m : zM} {a0 a1 : Value} {y0 y1 : Int32} : zex zTb d zqX2_makeRoomAhead 15 [a0, a1] [.int y1, .int y0] f m = if zc2 .ge y0 y1 = true then zex zTb d zqX2_makeRoomAhead 66 [a0, a1] [] f m else zex zTb d zqX2_makeRoomAhead 18 [a0, a1] [] f m := (zx_icmp (tgt := 66) zh_X2_makeRoomAhead_15 rfl)
theorem ze_X2_makeRoomAhead_18 {d : Nat} {f : zF} {m : zM} {x0 : Nat} {a1 : Value} : zex zTb d zqX2_makeRoomAhead 18 [.ref x0, a1] [] f m = if zco (f x0) 2 0 = true then zex zTb d zqX2_makeRoomAhead 22 [.ref x0, a1] [zcf (f x0) 0] f m else none := (zxl_go (x := (19, [.ref x0, a1], [.ref x0], f, m)) zh_X2_makeRoomAhead_18 rfl).trans ((zx_getfield zh_X2_makeRoomAhead_19))
theorem ze_X2_makeRoomAhead_22 {d : Nat} {f : zF} {m : zM} {x0 y0 : Nat} {x1 : Int32} : zex zTb d zqX2_makeRoomAhead 22 [.ref x0, .int x1] [.ref y0] f m = if zco (f x0) 2 0 = true then zex zTb d zqX2_makeRoomAhead 27 [.ref x0, .int x1] [zcf (f x0) 0, .int x1, .ref y0] f m else none := (zxl_go (x := (23, [.ref x0, .int x1], [.int x1, .ref y0], f, m)) zh_X2_makeRoomAhead_22 rfl).trans ((zxl_go (x := (24, [.ref x0, .int x1], [.ref x0, .int x1, .ref y0], f, m)) zh_X2_makeRoomAhead_23 rfl).trans ((zx_getfield zh_X2_makeRoomAhead_24)))
theorem ze_X2_makeRoomAhead_27 {d : Nat} {f : zF} {m : zM} {a0 : Value} {x1 y1 : Int32} {y0 y2 : Nat} : zex zTb d zqX2_makeRoomAhead 27 [a0, .int x1] [.ref y2, .int y1, .ref y0] f m = if zr8 (f y2) (x1 - (I 1)) = true then zex zTb d zqX2_makeRoomAhead 31 [a0, .int x1] [.int (zgi (f y2) (x1 - (I 1)).toNatClampNeg), .int y1, .ref y0] f m else none := (zxl_go (x := (28, [a0, .int x1], [.int x1, .ref y2, .int y1, .ref y0], f, m)) zh_X2_makeRoomAhead_27 rfl).trans ((zx_iconst zh_X2_makeRoomAhead_28).trans ((zxl_go (x := (30, [a0, .int x1], [.int (x1 - (I 1)), .ref y2, .int y1, .ref y0], f, m)) zh_X2_makeRoomAhead_29 rfl).trans ((zx_iaload zh_X2_makeRoomAhead_30))))
theorem ze_X2_makeRoomAhead_31 {d : Nat} {f : zF} {m : zM} {a0 a1 : Value} {y0 : Nat} {y1 y2 : Int32} : zex zTb d zqX2_makeRoomAhead 31 [a0, a1] [.int y2, .int y1, .ref y0] f m = if zri (f y0) 0 y1 = true then zex zTb d zqX2_makeRoomAhead 32 [a0, a1] [] (zup f y0 (zwi (f y0) 0 y1.toNatClampNeg y2)) m else none := (zx_iastore zh_X2_makeRoomAhead_31)
theorem ze_X2_makeRoomAhead_32 {d : Nat} {f : zF} {m : zM} {x0 : Nat} {a1 : Value} : zex zTb d zqX2_makeRoomAhead 32 [.ref x0, a1] [] f m = if zco (f x0) 2 1 = true then zex zTb d zqX2_makeRoomAhead 36 [.ref x0, a1] [zcf (f x0) 1] f m else none := (zxl_go (x := (33, [.ref x0, a1], [.ref x0], f, m)) zh_X2_makeRoomAhead_32 rfl).trans ((zx_getfield zh_X2_makeRoomAhead_33))
theorem ze_X2_makeRoomAhead_36 {d : Nat} {f : zF} {m : zM} {x0 y0 : Nat} {x1 : Int32} : zex zTb d zqX2_makeRoomAhead 36 [.ref x0, .int x1] [.ref y0] f m = if zco (f x0) 2 1 = true then zex zTb d zqX2_makeRoomAhead 41 [.ref x0, .int x1] [zcf (f x0) 1, .int x1, .ref y0] f m else none := (zxl_go (x := (37, [.ref x0, .int x1], [.int x1, .ref y0], f, m)) zh_X2_makeRoomAhead_36 rfl).trans ((zxl_go (x := (38, [.ref x0, .int x1], [.ref x0, .int x1, .ref y0], f, m)) zh_X2_makeRoomAhead_37 rfl).trans ((zx_getfield zh_X2_makeRoomAhead_38)))
theorem ze_X2_makeRoomAhead_41 {d : Nat} {f : zF} {m : zM} {a0 : Value} {x1 y1 : Int32} {y0 y2 : Nat} : zex zTb d zqX2_makeRoomAhead 41 [a0, .int x1] [.ref y2, .int y1, .ref y0] f m = if zr8 (f y2) (x1 - (I 1)) = true then zex zTb d zqX2_makeRoomAhead 45 [a0, .int x1] [.int (zgi (f y2) (x1 - (I 1)).toNatClampNeg), .int y1, .ref y0] f m else none := (zxl_go (x := (42, [a0, .int x1], [.int x1, .ref y2, .int y1, .ref y0], f, m)) zh_X2_makeRoomAhead_41 rfl).trans ((zx_iconst zh_X2_makeRoomAhead_42).trans ((zxl_go (x := (44, [a0, .int x1], [.int (x1 - (I 1)), .ref y2, .int y1, .ref y0], f, m)) zh_X2_makeRoomAhead_43 rfl).trans ((zx_iaload zh_X2_makeRoomAhead_44))))
theorem ze_X2_makeRoomAhead_45 {d : Nat} {f : zF} {m : zM} {a0 a1 : Value} {y0 : Nat} {y1 y2 : Int32} : zex zTb d zqX2_makeRoomAhead 45 [a0, a1] [.int y2, .int y1, .ref y0] f m = if zri (f y0) 0 y1 = true then zex zTb d zqX2_makeRoomAhead 46 [a0, a1] [] (zup f y0 (zwi (f y0) 0 y1.toNatClampNeg y2)) m else none := (zx_iastore zh_X2_makeRoomAhead_45)
theorem ze_X2_makeRoomAhead_46 {d : Nat} {f : zF} {m : zM} {x0 : Nat} {a1 : Value} : zex zTb d zqX2_makeRoomAhead 46 [.ref x0, a1] [] f m = if zco (f x0) 2 2 = true then zex zTb d zqX2_makeRoomAhead 50 [.ref x0, a1] [zcf (f x0) 2] f m else none := (zxl_go (x := (47, [.ref x0, a1], [.ref x0], f, m)) zh_X2_makeRoomAhead_46 rfl).trans ((zx_getfield zh_X2_makeRoomAhead_47))
theorem ze_X2_makeRoomAhead_50 {d : Nat} {f : zF} {m : zM} {x0 y0 : Nat} {x1 : Int32} : zex zTb d zqX2_makeRoomAhead 50 [.ref x0, .int x1] [.ref y0] f m = if zco (f x0) 2 2 = true then zex zTb d zqX2_makeRoomAhead 55 [.ref x0, .int x1] [zcf (f x0) 2, .int x1, .ref y0] f m else none := (zxl_go (x := (51, [.ref x0, .int x1], [.int x1, .ref y0], f, m)) zh_X2_makeRoomAhead_50 rfl).trans ((zxl_go (x := (52, [.ref x0, .int x1], [.ref x0, .int x1, .ref y0], f, m)) zh_X2_makeRoomAhead_51 rfl).trans ((zx_getfield zh_X2_makeRoomAhead_52)))
theorem ze_X2_makeRoomAhead_55 {d : Nat} {f : zF} {m : zM} {a0 : Value} {x1 y1 : Int32} {y0 y2 : Nat} : zex zTb d zqX2_makeRoomAhead 55 [a0, .int x1] [.ref y2, .int y1, .ref y0] f m = if zr8 (f y2) (x1 - (I 1)) = true then zex zTb d zqX2_makeRoomAhead 59 [a0, .int x1] [.int (zgi (f y2) (x1 - (I 1)).toNatClampNeg), .int y1, .ref y0] f m else none := (zxl_go (x := (56, [a0, .int x1], [.int x1, .ref y2, .int y1, .ref y0], f, m)) zh_X2_makeRoomAhead_55 rfl).trans ((zx_iconst zh_X2_makeRoomAhead_56).trans ((zxl_go (x := (58, [a0, .int x1], [.int (x1 - (I 1)), .ref y2, .int y1, .ref y0], f, m)) zh_X2_makeRoomAhead_57 rfl).trans ((zx_iaload zh_X2_makeRoomAhead_58))))
theorem ze_X2_makeRoomAhead_59 {d : Nat} {f : zF} {m : zM} {a0 a1 : Value} {y0 : Nat} {y1 y2 : Int32} : zex zTb d zqX2_makeRoomAhead 59 [a0, a1] [.int y2, .int y1, .ref y0] f m = if zri (f y0) 0 y1 = true then zex zTb d zqX2_makeRoomAhead 60 [a0, a1] [] (zup f y0 (zwi (f y0) 0 y1.toNatClampNeg y2)) m else none := (zx_iastore zh_X2_makeRoomAhead_59)
theorem ze_X2_makeRoomAhead_60 {d : Nat} {f : zF} {m : zM} {a0 : Value} {x1 : Int32} : zex zTb d zqX2_makeRoomAhead 60 [a0, .int x1] [] f m = zex zTb d zqX2_makeRoomAhead 5 [(zclr a0), .int (x1 + I (-1))] [] f m := (zxl_go (x := (63, [(zclr a0), .int (x1 + I (-1))], [], f, m)) zh_X2_makeRoomAhead_60 rfl).trans ((zx_goto zh_X2_makeRoomAhead_63 rfl))
theorem ze_X2_makeRoomAhead_66 {d : Nat} {f : zF} {m : zM} {x0 : Nat} {a1 : Value} : zex zTb d zqX2_makeRoomAhead 66 [.ref x0, a1] [] f m = if zco (f x0) 2 1 = true then zex zTb d zqX2_makeRoomAhead 70 [.ref x0, a1] [zcf (f x0) 1] f m else none := (zxl_go (x := (67, [.ref x0, a1], [.ref x0], f, m)) zh_X2_makeRoomAhead_66 rfl).trans ((zx_getfield zh_X2_makeRoomAhead_67))
theorem ze_X2_makeRoomAhead_70 {d : Nat} {f : zF} {m : zM} {a0 a1 : Value} {y0 : Nat} : zex zTb d zqX2_makeRoomAhead 70 [a0, a1] [.ref y0] f m = if zri (f y0) 0 (I 0) = true then zex zTb d zqX2_makeRoomAhead 73 [a0, a1] [] (zup f y0 (zwi (f y0) 0 (I 0).toNatClampNeg (I 0))) m else none := (zx_iconst zh_X2_makeRoomAhead_70).trans ((zx_iconst zh_X2_makeRoomAhead_71).trans ((zx_iastore zh_X2_makeRoomAhead_72)))
theorem ze_X2_makeRoomAhead_73 {d : Nat} {f : zF} {m : zM} {x0 : Nat} {a1 : Value} : zex zTb d zqX2_makeRoomAhead 73 [.ref x0, a1] [] f m = if zco (f x0) 2 3 = true then zex zTb d zqX2_makeRoomAhead 78 [.ref x0, a1] [zcf (f x0) 3, .ref x0] f m else none := (zxl_go (x := (74, [.ref x0, a1], [.ref x0], f, m)) zh_X2_makeRoomAhead_73 rfl).trans ((zxl_go (x := (75, [.ref x0, a1], [.ref x0, .ref x0], f, m)) zh_X2_makeRoomAhead_74 rfl).trans ((zx_getfield zh_X2_makeRoomAhead_75)))
theorem ze_X2_makeRoomAhead_78 {d : Nat} {f : zF} {m : zM} {a0 a1 : Value} {y0 : Nat} {y1 : Int32} : zex zTb d zqX2_makeRoomAhead 78 [a0, a1] [.int y1, .ref y0] f m = if (zco (f y0) 2 3 && zok (zfty 2 3) (.int (y1 + (I 1)))) = true then zex zTb d zqX2_makeRoomAhead 83 [a0, a1] [] (zup f y0 (zcs (f y0) 3 (.int (y1 + (I 1))))) m else none := (zx_iconst zh_X2_makeRoomAhead_78).trans ((zxl_go (x := (80, [a0, a1], [.int (y1 + (I 1)), .ref y0], f, m)) zh_X2_makeRoomAhead_79 rfl).trans ((zx_putfield zh_X2_makeRoomAhead_80)))
theorem ze_X2_makeRoomAhead_83 {d : Nat} {f : zF} {m : zM} {a0 a1 : Value} : zex zTb d zqX2_makeRoomAhead 83 [a0, a1] [] f m = some (.inl none, f, m) := (zx_ret zh_X2_makeRoomAhead_83 rfl)
-- X3_init
theorem zh_X3_init_0 : zfe zqX3_init.i 0 = some (0, .aload_n 0, 1, 0, 0, 0) := rfl
theorem zh_X3_init_1 : zfe zqX3_init.i 1 = some (1, .invokespecial 3, 3, 0, 0, 0) := rfl
theorem zh_X3_init_4 : zfe zqX3_init.i 4 = some (4, .aload_n 0, 1, 0, 0, 0) := rfl
theorem zh_X3_init_5 : zfe zqX3_init.i 5 = some (5, .bipush 60, 2, 0, 0, 0) := rfl
theorem zh_X3_init_7 : zfe zqX3_init.i 7 = some (7, .newarray .long, 2, 0, 0, 0) := rfl
theorem zh_X3_init_9 : zfe zqX3_init.i 9 = some (9, .putfield 9, 3, 3, 0, 1) := rfl
theorem zh_X3_init_12 : zfe zqX3_init.i 12 = some (12, .aload_n 0, 1, 0, 0, 0) := rfl
theorem zh_X3_init_13 : zfe zqX3_init.i 13 = some (13, .iconst 1, 1, 0, 0, 0) := rfl
theorem zh_X3_init_14 : zfe zqX3_init.i 14 = some (14, .putfield 15, 3, 3, 1, 0) := rfl
theorem zh_X3_init_17 : zfe zqX3_init.i 17 = some (17, .return_, 1, 0, 0, 0) := rfl
theorem ze_X3_init_0 {d : Nat} {f : zF} {nx kk n : Nat} {x0 : Nat} : zex zTb d zqX3_init 0 [.ref x0] [] f (some nx, kk, n) = zex zTb d zqX3_init 9 [.ref x0] [.ref nx, .ref x0] (zup f nx (.inl (1, (60, .inr (.inl (fun _ => 0)))))) (some (nx + 1), kk + 1, n + 60) := (zxl_go (x := (1, [.ref x0], [.ref x0], f, (some nx, kk, n))) zh_X3_init_0 rfl).trans ((zx_objinit zh_X3_init_1 (Nat.le_of_ble_eq_true rfl)).trans ((zxl_go (x := (5, [.ref x0], [.ref x0], f, (some nx, kk, n))) zh_X3_init_4 rfl).trans ((zx_bipush zh_X3_init_5 (by decide)).trans ((zx_newarr (N := 60) zh_X3_init_7 rfl (by decide) (by decide))))))
theorem ze_X3_init_9 {d : Nat} {f : zF} {m : zM} {a0 : Value} {y0 y1 : Nat} : zex zTb d zqX3_init 9 [a0] [.ref y1, .ref y0] f m = if (zco (f y0) 3 0 && zok (zfty 3 0) (.ref y1)) = true then zex zTb d zqX3_init 12 [a0] [] (zup f y0 (zcs (f y0) 0 (.ref y1))) m else none := (zx_putfield zh_X3_init_9)
theorem ze_X3_init_12 {d : Nat} {f : zF} {m : zM} {x0 : Nat} : zex zTb d zqX3_init 12 [.ref x0] [] f m = if (zco (f x0) 3 1 && zok (zfty 3 1) (.int (I 1))) = true then zex zTb d zqX3_init 17 [.ref x0] [] (zup f x0 (zcs (f x0) 1 (.int (I 1)))) m else none := (zxl_go (x := (13, [.ref x0], [.ref x0], f, m)) zh_X3_init_12 rfl).trans ((zx_iconst zh_X3_init_13).trans ((zx_putfield zh_X3_init_14)))
theorem ze_X3_init_17 {d : Nat} {f : zF} {m : zM} {a0 : Value} : zex zTb d zqX3_init 17 [a0] [] f m = some (.inl none, f, m) := (zx_ret zh_X3_init_17 rfl)
-- X3_has
theorem zh_X3_has_0 : zfe zqX3_has.i 0 = some (0, .iload_n 1, 1, 0, 0, 0) := rfl
theorem zh_X3_has_1 : zfe zqX3_has.i 1 = some (1, .ifCond .lt 24, 3, 0, 0, 0) := rfl
theorem zh_X3_has_4 : zfe zqX3_has.i 4 = some (4, .iload_n 1, 1, 0, 0, 0) := rfl
theorem zh_X3_has_5 : zfe zqX3_has.i 5 = some (5, .aload_n 0, 1, 0, 0, 0) := rfl
theorem zh_X3_has_6 : zfe zqX3_has.i 6 = some (6, .getfield 15, 3, 3, 1, 0) := rfl
theorem zh_X3_has_9 : zfe zqX3_has.i 9 = some (9, .if_icmp .ge 16, 3, 0, 0, 0) := rfl
theorem zh_X3_has_12 : zfe zqX3_has.i 12 = some (12, .iload_n 1, 1, 0, 0, 0) := rfl
theorem zh_X3_has_13 : zfe zqX3_has.i 13 = some (13, .aload_n 0, 1, 0, 0, 0) := rfl
theorem zh_X3_has_14 : zfe zqX3_has.i 14 = some (14, .getfield 9, 3, 3, 0, 0) := rfl
theorem zh_X3_has_17 : zfe zqX3_has.i 17 = some (17, .arraylength, 1, 0, 0, 0) := rfl
theorem zh_X3_has_18 : zfe zqX3_has.i 18 = some (18, .if_icmp .ge 7, 3, 0, 0, 0) := rfl
theorem zh_X3_has_21 : zfe zqX3_has.i 21 = some (21, .iconst 1, 1, 0, 0, 0) := rfl
theorem zh_X3_has_22 : zfe zqX3_has.i 22 = some (22, .goto 4, 3, 0, 0, 0) := rfl
theorem zh_X3_has_25 : zfe zqX3_has.i 25 = some (25, .iconst 0, 1, 0, 0, 0) := rfl
theorem zh_X3_has_26 : zfe zqX3_has.i 26 = some (26, .ireturn, 1, 0, 0, 0) := rfl
theorem ze_X3_has_0 {d : Nat} {f : zF} {m : zM} {a0 : Value} {x1 : Int32} : zex zTb d zqX3_has 0 [a0, .int x1] [] f m = if zc1 .lt x1 = true then zex zTb d zqX3_has 25 [a0, .int x1] [] f m else zex zTb d zqX3_has 4 [a0, .int x1] [] f m := (zxl_go (x := (1, [a0, .int x1], [.int x1], f, m)) zh_X3_has_0 rfl).trans ((zx_if (tgt := 25) zh_X3_has_1 rfl))
theorem ze_X3_has_4 {d : Nat} {f : zF} {m : zM} {x0 : Nat} {x1 : Int32} : zex zTb d zqX3_has 4 [.ref x0, .int x1] [] f m = if zco (f x0) 3 1 = true then zex zTb d zqX3_has 9 [.ref x0, .int x1] [zcf (f x0) 1, .int x1] f m else none := (zxl_go (x := (5, [.ref x0, .int x1], [.int x1], f, m)) zh_X3_has_4 rfl).trans ((zxl_go (x := (6, [.ref x0, .int x1], [.ref x0, .int x1], f, m)) zh_X3_has_5 rfl).trans ((zx_getfield zh_X3_has_6)))
theorem ze_X3_has_9 {d : Nat} {f : zF} {m : zM} {a0 a1 : Value} {y0 y1 : Int32} : zex zTb d zqX3_has 9 [a0, a1] [.int y1, .int y0] f m = if zc2 .ge y0 y1 = true then zex zTb d zqX3_has 25 [a0, a1] [] f m else zex zTb d zqX3_has 12 [a0, a1] [] f m := (zx_icmp (tgt := 25) zh_X3_has_9 rfl)
theorem ze_X3_has_12 {d : Nat} {f : zF} {m : zM} {x0 : Nat} {x1 : Int32} : zex zTb d zqX3_has 12 [.ref x0, .int x1] [] f m = if zco (f x0) 3 0 = true then zex zTb d zqX3_has 17 [.ref x0, .int x1] [zcf (f x0) 0, .int x1] f m else none := (zxl_go (x := (13, [.ref x0, .int x1], [.int x1], f, m)) zh_X3_has_12 rfl).trans ((zxl_go (x := (14, [.ref x0, .int x1], [.ref x0, .int x1], f, m)) zh_X3_has_13 rfl).trans ((zx_getfield zh_X3_has_14)))
theorem ze_X3_has_17 {d : Nat} {f : zF} {m : zM} {a0 a1 : Value} {y0 : Int32} {y1 : Nat} : zex zTb d zqX3_has 17 [a0, a1] [.ref y1, .int y0] f m = if zisa (f y1) = true then zex zTb d zqX3_has 18 [a0, a1] [.int (Int32.ofNat (zln (f y1))), .int y0] f m else none := (zx_alen zh_X3_has_17)
theorem ze_X3_has_18 {d : Nat} {f : zF} {m : zM} {a0 a1 : Value} {y0 y1 : Int32} : zex zTb d zqX3_has 18 [a0, a1] [.int y1, .int y0] f m = if zc2 .ge y0 y1 = true then zex zTb d zqX3_has 25 [a0, a1] [] f m else zex zTb d zqX3_has 21 [a0, a1] [] f m := (zx_icmp (tgt := 25) zh_X3_has_18 rfl)
theorem ze_X3_has_21 {d : Nat} {f : zF} {m : zM} {a0 a1 : Value} : zex zTb d zqX3_has 21 [a0, a1] [] f m = some (.inl (some (.int (I 1))), f, m) := (zx_iconst zh_X3_has_21).trans ((zx_goto zh_X3_has_22 rfl).trans ((zx_iret zh_X3_has_26 (by first | rfl | decide))))
theorem ze_X3_has_25 {d : Nat} {f : zF} {m : zM} {a0 a1 : Value} : zex zTb d zqX3_has 25 [a0, a1] [] f m = some (.inl (some (.int (I 0))), f, m) := (zx_iconst zh_X3_has_25).trans ((zx_iret zh_X3_has_26 (by first | rfl | decide)))
-- X3_becomeEmptyWord
theorem zh_X3_becomeEmptyWord_0 : zfe zqX3_becomeEmptyWord.i 0 = some (0, .aload_n 0, 1, 0, 0, 0) := rfl
theorem zh_X3_becomeEmptyWord_1 : zfe zqX3_becomeEmptyWord.i 1 = some (1, .getfield 9, 3, 3, 0, 0) := rfl
theorem zh_X3_becomeEmptyWord_4 : zfe zqX3_becomeEmptyWord.i 4 = some (4, .iconst 0, 1, 0, 0, 0) := rfl
theorem zh_X3_becomeEmptyWord_5 : zfe zqX3_becomeEmptyWord.i 5 = some (5, .lconst 0, 1, 0, 0, 0) := rfl
theorem zh_X3_becomeEmptyWord_6 : zfe zqX3_becomeEmptyWord.i 6 = some (6, .lastore, 1, 0, 0, 0) := rfl
theorem zh_X3_becomeEmptyWord_7 : zfe zqX3_becomeEmptyWord.i 7 = some (7, .aload_n 0, 1, 0, 0, 0) := rfl
theorem zh_X3_becomeEmptyWord_8 : zfe zqX3_becomeEmptyWord.i 8 = some (8, .iconst 1, 1, 0, 0, 0) := rfl
theorem zh_X3_becomeEmptyWord_9 : zfe zqX3_becomeEmptyWord.i 9 = some (9, .putfield 15, 3, 3, 1, 0) := rfl
theorem zh_X3_becomeEmptyWord_12 : zfe zqX3_becomeEmptyWord.i 12 = some (12, .return_, 1, 0, 0, 0) := rfl
theorem ze_X3_becomeEmptyWord_0 {d : Nat} {f : zF} {m : zM} {x0 : Nat} : zex zTb d zqX3_becomeEmptyWord 0 [.ref x0] [] f m = if zco (f x0) 3 0 = true then zex zTb d zqX3_becomeEmptyWord 4 [.ref x0] [zcf (f x0) 0] f m else none := (zxl_go (x := (1, [.ref x0], [.ref x0], f, m)) zh_X3_becomeEmptyWord_0 rfl).trans ((zx_getfield zh_X3_becomeEmptyWord_1))
theorem ze_X3_becomeEmptyWord_4 {d : Nat} {f : zF} {m : zM} {a0 : Value} {y0 : Nat} : zex zTb d zqX3_becomeEmptyWord 4 [a0] [.ref y0] f m = if zrl (f y0) (I 0) = true then zex zTb d zqX3_becomeEmptyWord 7 [a0] [] (zup f y0 (zwl (f y0) (I 0).toNatClampNeg (J 0))) m else none := (zx_iconst zh_X3_becomeEmptyWord_4).trans ((zx_lconst (v := 0) zh_X3_becomeEmptyWord_5 (by decide)).trans ((zx_lastore zh_X3_becomeEmptyWord_6)))
theorem ze_X3_becomeEmptyWord_7 {d : Nat} {f : zF} {m : zM} {x0 : Nat} : zex zTb d zqX3_becomeEmptyWord 7 [.ref x0] [] f m = if (zco (f x0) 3 1 && zok (zfty 3 1) (.int (I 1))) = true then zex zTb d zqX3_becomeEmptyWord 12 [.ref x0] [] (zup f x0 (zcs (f x0) 1 (.int (I 1)))) m else none := (zxl_go (x := (8, [.ref x0], [.ref x0], f, m)) zh_X3_becomeEmptyWord_7 rfl).trans ((zx_iconst zh_X3_becomeEmptyWord_8).trans ((zx_putfield zh_X3_becomeEmptyWord_9)))
theorem ze_X3_becomeEmptyWord_12 {d : Nat} {f : zF} {m : zM} {a0 : Value} : zex zTb d zqX3_becomeEmptyWord 12 [a0] [] f m = some (.inl none, f, m) := (zx_ret zh_X3_becomeEmptyWord_12 rfl)
-- X3_becomeCopy
theorem zh_X3_becomeCopy_0 : zfe zqX3_becomeCopy.i 0 = some (0, .aload_n 0, 1, 0, 0, 0) := rfl
theorem zh_X3_becomeCopy_1 : zfe zqX3_becomeCopy.i 1 = some (1, .aload_n 1, 1, 0, 0, 0) := rfl
theorem zh_X3_becomeCopy_2 : zfe zqX3_becomeCopy.i 2 = some (2, .getfield 15, 3, 3, 1, 0) := rfl
theorem zh_X3_becomeCopy_5 : zfe zqX3_becomeCopy.i 5 = some (5, .putfield 15, 3, 3, 1, 0) := rfl
theorem zh_X3_becomeCopy_8 : zfe zqX3_becomeCopy.i 8 = some (8, .iconst 0, 1, 0, 0, 0) := rfl
theorem zh_X3_becomeCopy_9 : zfe zqX3_becomeCopy.i 9 = some (9, .istore_n 2, 1, 0, 0, 0) := rfl
theorem zh_X3_becomeCopy_10 : zfe zqX3_becomeCopy.i 10 = some (10, .iload_n 2, 1, 0, 0, 0) := rfl
theorem zh_X3_becomeCopy_11 : zfe zqX3_becomeCopy.i 11 = some (11, .aload_n 0, 1, 0, 0, 0) := rfl
theorem zh_X3_becomeCopy_12 : zfe zqX3_becomeCopy.i 12 = some (12, .getfield 15, 3, 3, 1, 0) := rfl
theorem zh_X3_becomeCopy_15 : zfe zqX3_becomeCopy.i 15 = some (15, .if_icmp .ge 21, 3, 0, 0, 0) := rfl
theorem zh_X3_becomeCopy_18 : zfe zqX3_becomeCopy.i 18 = some (18, .aload_n 0, 1, 0, 0, 0) := rfl
theorem zh_X3_becomeCopy_19 : zfe zqX3_becomeCopy.i 19 = some (19, .getfield 9, 3, 3, 0, 0) := rfl
theorem zh_X3_becomeCopy_22 : zfe zqX3_becomeCopy.i 22 = some (22, .iload_n 2, 1, 0, 0, 0) := rfl
theorem zh_X3_becomeCopy_23 : zfe zqX3_becomeCopy.i 23 = some (23, .aload_n 1, 1, 0, 0, 0) := rfl
theorem zh_X3_becomeCopy_24 : zfe zqX3_becomeCopy.i 24 = some (24, .getfield 9, 3, 3, 0, 0) := rfl
theorem zh_X3_becomeCopy_27 : zfe zqX3_becomeCopy.i 27 = some (27, .iload_n 2, 1, 0, 0, 0) := rfl
theorem zh_X3_becomeCopy_28 : zfe zqX3_becomeCopy.i 28 = some (28, .laload, 1, 0, 0, 0) := rfl
theorem zh_X3_becomeCopy_29 : zfe zqX3_becomeCopy.i 29 = some (29, .lastore, 1, 0, 0, 0) := rfl
theorem zh_X3_becomeCopy_30 : zfe zqX3_becomeCopy.i 30 = some (30, .iinc 2 1, 3, 0, 0, 0) := rfl
theorem zh_X3_becomeCopy_33 : zfe zqX3_becomeCopy.i 33 = some (33, .goto (-23), 3, 0, 0, 0) := rfl
theorem zh_X3_becomeCopy_36 : zfe zqX3_becomeCopy.i 36 = some (36, .return_, 1, 0, 0, 0) := rfl
theorem ze_X3_becomeCopy_0 {d : Nat} {f : zF} {m : zM} {x0 x1 : Nat} {a2 : Value} : zex zTb d zqX3_becomeCopy 0 [.ref x0, .ref x1, a2] [] f m = if zco (f x1) 3 1 = true then zex zTb d zqX3_becomeCopy 5 [.ref x0, .ref x1, a2] [zcf (f x1) 1, .ref x0] f m else none := (zxl_go (x := (1, [.ref x0, .ref x1, a2], [.ref x0], f, m)) zh_X3_becomeCopy_0 rfl).trans ((zxl_go (x := (2, [.ref x0, .ref x1, a2], [.ref x1, .ref x0], f, m)) zh_X3_becomeCopy_1 rfl).trans ((zx_getfield zh_X3_becomeCopy_2)))
theorem ze_X3_becomeCopy_5 {d : Nat} {f : zF} {m : zM} {a0 a1 a2 : Value} {y0 : Nat} {y1 : Int32} : zex zTb d zqX3_becomeCopy 5 [a0, a1, a2] [.int y1, .ref y0] f m = if (zco (f y0) 3 1 && zok (zfty 3 1) (.int y1)) = true then zex zTb d zqX3_becomeCopy 8 [a0, a1, a2] [] (zup f y0 (zcs (f y0) 1 (.int y1))) m else none := (zx_putfield zh_X3_becomeCopy_5)
theorem ze_X3_becomeCopy_8 {d : Nat} {f : zF} {m : zM} {a0 a1 a2 : Value} : zex zTb d zqX3_becomeCopy 8 [a0, a1, a2] [] f m = zex zTb d zqX3_becomeCopy 10 [a0, (zclr a1), .int (I 0)] [] f m := (zx_iconst zh_X3_becomeCopy_8).trans ((zxl_go (x := (10, [a0, (zclr a1), .int (I 0)], [], f, m)) zh_X3_becomeCopy_9 rfl))
theorem ze_X3_becomeCopy_10 {d : Nat} {f : zF} {m : zM} {x0 : Nat} {a1 : Value} {x2 : Int32} : zex zTb d zqX3_becomeCopy 10 [.ref x0, a1, .int x2] [] f m = if zco (f x0) 3 1 = true then zex zTb d zqX3_becomeCopy 15 [.ref x0, a1, .int x2] [zcf (f x0) 1, .int x2] f m else none := (zxl_go (x := (11, [.ref x0, a1, .int x2], [.int x2], f, m)) zh_X3_becomeCopy_10 rfl).trans ((zxl_go (x := (12, [.ref x0, a1, .int x2], [.ref x0, .int x2], f, m)) zh_X3_becomeCopy_11 rfl).trans ((zx_getfield zh_X3_becomeCopy_12)))
theorem ze_X3_becomeCopy_15 {d : Nat} {f : zF} {m : zM} {a0 a1 a2 : Value} {y0 y1 : Int32} : zex zTb d zqX3_becomeCopy 15 [a0, a1, a2] [.int y1, .int y0] f m = if zc2 .ge y0 y1 = true then zex zTb d zqX3_becomeCopy 36 [a0, a1, a2] [] f m else zex zTb d zqX3_becomeCopy 18 [a0, a1, a2] [] f m := (zx_icmp (tgt := 36) zh_X3_becomeCopy_15 rfl)
theorem ze_X3_becomeCopy_18 {d : Nat} {f : zF} {m : zM} {x0 : Nat} {a1 a2 : Value} : zex zTb d zqX3_becomeCopy 18 [.ref x0, a1, a2] [] f m = if zco (f x0) 3 0 = true then zex zTb d zqX3_becomeCopy 22 [.ref x0, a1, a2] [zcf (f x0) 0] f m else none := (zxl_go (x := (19, [.ref x0, a1, a2], [.ref x0], f, m)) zh_X3_becomeCopy_18 rfl).trans ((zx_getfield zh_X3_becomeCopy_19))
theorem ze_X3_becomeCopy_22 {d : Nat} {f : zF} {m : zM} {a0 : Value} {x1 y0 : Nat} {x2 : Int32} : zex zTb d zqX3_becomeCopy 22 [a0, .ref x1, .int x2] [.ref y0] f m = if zco (f x1) 3 0 = true then zex zTb d zqX3_becomeCopy 27 [a0, .ref x1, .int x2] [zcf (f x1) 0, .int x2, .ref y0] f m else none := (zxl_go (x := (23, [a0, .ref x1, .int x2], [.int x2, .ref y0], f, m)) zh_X3_becomeCopy_22 rfl).trans ((zxl_go (x := (24, [a0, .ref x1, .int x2], [.ref x1, .int x2, .ref y0], f, m)) zh_X3_becomeCopy_23 rfl).trans ((zx_getfield zh_X3_becomeCopy_24)))
theorem ze_X3_becomeCopy_27 {d : Nat} {f : zF} {m : zM} {a0 a1 : Value} {x2 y1 : Int32} {y0 y2 : Nat} : zex zTb d zqX3_becomeCopy 27 [a0, a1, .int x2] [.ref y2, .int y1, .ref y0] f m = if zrl (f y2) x2 = true then zex zTb d zqX3_becomeCopy 29 [a0, a1, .int x2] [.long (zgl (f y2) x2.toNatClampNeg), .int y1, .ref y0] f m else none := (zxl_go (x := (28, [a0, a1, .int x2], [.int x2, .ref y2, .int y1, .ref y0], f, m)) zh_X3_becomeCopy_27 rfl).trans ((zx_laload zh_X3_becomeCopy_28))
theorem ze_X3_becomeCopy_29 {d : Nat} {f : zF} {m : zM} {a0 a1 a2 : Value} {y0 : Nat} {y1 : Int32} {y2 : Int64} : zex zTb d zqX3_becomeCopy 29 [a0, a1, a2] [.long y2, .int y1, .ref y0] f m = if zrl (f y0) y1 = true then zex zTb d zqX3_becomeCopy 30 [a0, a1, a2] [] (zup f y0 (zwl (f y0) y1.toNatClampNeg y2)) m else none := (zx_lastore zh_X3_becomeCopy_29)
theorem ze_X3_becomeCopy_30 {d : Nat} {f : zF} {m : zM} {a0 a1 : Value} {x2 : Int32} : zex zTb d zqX3_becomeCopy 30 [a0, a1, .int x2] [] f m = zex zTb d zqX3_becomeCopy 10 [a0, (zclr a1), .int (x2 + I 1)] [] f m := (zxl_go (x := (33, [a0, (zclr a1), .int (x2 + I 1)], [], f, m)) zh_X3_becomeCopy_30 rfl).trans ((zx_goto zh_X3_becomeCopy_33 rfl))
theorem ze_X3_becomeCopy_36 {d : Nat} {f : zF} {m : zM} {a0 a1 a2 : Value} : zex zTb d zqX3_becomeCopy 36 [a0, a1, a2] [] f m = some (.inl none, f, m) := (zx_ret zh_X3_becomeCopy_36 rfl)
-- X3_takeIn
theorem zh_X3_takeIn_0 : zfe zqX3_takeIn.i 0 = some (0, .iconst 1, 1, 0, 0, 0) := rfl
theorem zh_X3_takeIn_1 : zfe zqX3_takeIn.i 1 = some (1, .istore_n 3, 1, 0, 0, 0) := rfl
theorem zh_X3_takeIn_2 : zfe zqX3_takeIn.i 2 = some (2, .lload_n 1, 1, 0, 0, 0) := rfl
theorem zh_X3_takeIn_3 : zfe zqX3_takeIn.i 3 = some (3, .invokestatic 19, 3, 73, 1, 0) := rfl
theorem zh_X3_takeIn_6 : zfe zqX3_takeIn.i 6 = some (6, .istore 4, 2, 0, 0, 0) := rfl
theorem zh_X3_takeIn_8 : zfe zqX3_takeIn.i 8 = some (8, .iload_n 3, 1, 0, 0, 0) := rfl
theorem zh_X3_takeIn_9 : zfe zqX3_takeIn.i 9 = some (9, .ifCond .eq 55, 3, 0, 0, 0) := rfl
theorem zh_X3_takeIn_12 : zfe zqX3_takeIn.i 12 = some (12, .iload 4, 2, 0, 0, 0) := rfl
theorem zh_X3_takeIn_14 : zfe zqX3_takeIn.i 14 = some (14, .ifCond .le 50, 3, 0, 0, 0) := rfl
theorem zh_X3_takeIn_17 : zfe zqX3_takeIn.i 17 = some (17, .lload_n 1, 1, 0, 0, 0) := rfl
theorem zh_X3_takeIn_18 : zfe zqX3_takeIn.i 18 = some (18, .iload 4, 2, 0, 0, 0) := rfl
theorem zh_X3_takeIn_20 : zfe zqX3_takeIn.i 20 = some (20, .invokestatic 25, 3, 74, 2, 0) := rfl
theorem zh_X3_takeIn_23 : zfe zqX3_takeIn.i 23 = some (23, .lstore 5, 2, 0, 0, 0) := rfl
theorem zh_X3_takeIn_25 : zfe zqX3_takeIn.i 25 = some (25, .iconst 0, 1, 0, 0, 0) := rfl
theorem zh_X3_takeIn_26 : zfe zqX3_takeIn.i 26 = some (26, .istore 7, 2, 0, 0, 0) := rfl
theorem zh_X3_takeIn_28 : zfe zqX3_takeIn.i 28 = some (28, .iload_n 3, 1, 0, 0, 0) := rfl
theorem zh_X3_takeIn_29 : zfe zqX3_takeIn.i 29 = some (29, .ifCond .eq 29, 3, 0, 0, 0) := rfl
theorem zh_X3_takeIn_32 : zfe zqX3_takeIn.i 32 = some (32, .iload 7, 2, 0, 0, 0) := rfl
theorem zh_X3_takeIn_34 : zfe zqX3_takeIn.i 34 = some (34, .iload 4, 2, 0, 0, 0) := rfl
theorem zh_X3_takeIn_36 : zfe zqX3_takeIn.i 36 = some (36, .if_icmp .ge 22, 3, 0, 0, 0) := rfl
theorem zh_X3_takeIn_39 : zfe zqX3_takeIn.i 39 = some (39, .aload_n 0, 1, 0, 0, 0) := rfl
theorem zh_X3_takeIn_40 : zfe zqX3_takeIn.i 40 = some (40, .lload 5, 2, 0, 0, 0) := rfl
theorem zh_X3_takeIn_42 : zfe zqX3_takeIn.i 42 = some (42, .bipush 8, 2, 0, 0, 0) := rfl
theorem zh_X3_takeIn_44 : zfe zqX3_takeIn.i 44 = some (44, .iload 7, 2, 0, 0, 0) := rfl
theorem zh_X3_takeIn_46 : zfe zqX3_takeIn.i 46 = some (46, .imul, 1, 0, 0, 0) := rfl
theorem zh_X3_takeIn_47 : zfe zqX3_takeIn.i 47 = some (47, .lushr, 1, 0, 0, 0) := rfl
theorem zh_X3_takeIn_48 : zfe zqX3_takeIn.i 48 = some (48, .invokevirtual 29, 3, 29, 2, 3) := rfl
theorem zh_X3_takeIn_51 : zfe zqX3_takeIn.i 51 = some (51, .istore_n 3, 1, 0, 0, 0) := rfl
theorem zh_X3_takeIn_52 : zfe zqX3_takeIn.i 52 = some (52, .iinc 7 1, 3, 0, 0, 0) := rfl
theorem zh_X3_takeIn_55 : zfe zqX3_takeIn.i 55 = some (55, .goto (-27), 3, 0, 0, 0) := rfl
theorem zh_X3_takeIn_58 : zfe zqX3_takeIn.i 58 = some (58, .iinc 4 (-1), 3, 0, 0, 0) := rfl
theorem zh_X3_takeIn_61 : zfe zqX3_takeIn.i 61 = some (61, .goto (-53), 3, 0, 0, 0) := rfl
theorem zh_X3_takeIn_64 : zfe zqX3_takeIn.i 64 = some (64, .iload_n 3, 1, 0, 0, 0) := rfl
theorem zh_X3_takeIn_65 : zfe zqX3_takeIn.i 65 = some (65, .ireturn, 1, 0, 0, 0) := rfl
theorem ze_X3_takeIn_0 {d : Nat} {f : zF} {m : zM} {a0 a2 a3 a4 a5 a6 a7 : Value} {x1 : Int64} : zex zTb d zqX3_takeIn 0 [a0, .long x1, a2, a3, a4, a5, a6, a7] [] f m = zcal zTb (zrun zTb d 73 [.long x1] f m) d zqX3_takeIn 3 6 [a0, .long x1, (zclr a2), .int (I 1), a4, a5, a6, a7] [] := (zx_iconst zh_X3_takeIn_0).trans ((zxl_go (x := (2, [a0, .long x1, (zclr a2), .int (I 1), a4, a5, a6, a7], [], f, m)) zh_X3_takeIn_1 rfl).trans ((zxl_go (x := (3, [a0, .long x1, (zclr a2), .int (I 1), a4, a5, a6, a7], [.long x1], f, m)) zh_X3_takeIn_2 rfl).trans (((zx_static zh_X3_takeIn_3 (Nat.le_of_ble_eq_true rfl) rfl rfl).trans (if_pos (Nat.le_of_ble_eq_true rfl))))))
theorem ze_X3_takeIn_6 {d : Nat} {f : zF} {m : zM} {a0 a1 a2 a3 a4 a5 a6 a7 : Value} {y0 : Int32} : zex zTb d zqX3_takeIn 6 [a0, a1, a2, a3, a4, a5, a6, a7] [.int y0] f m = zex zTb d zqX3_takeIn 8 [a0, a1, a2, (zclr a3), .int y0, a5, a6, a7] [] f m := (zxl_go (x := (8, [a0, a1, a2, (zclr a3), .int y0, a5, a6, a7], [], f, m)) zh_X3_takeIn_6 rfl)
theorem ze_X3_takeIn_8 {d : Nat} {f : zF} {m : zM} {a0 a1 a2 a4 a5 a6 a7 : Value} {x3 : Int32} : zex zTb d zqX3_takeIn 8 [a0, a1, a2, .int x3, a4, a5, a6, a7] [] f m = if zc1 .eq x3 = true then zex zTb d zqX3_takeIn 64 [a0, a1, a2, .int x3, a4, a5, a6, a7] [] f m else zex zTb d zqX3_takeIn 12 [a0, a1, a2, .int x3, a4, a5, a6, a7] [] f m := (zxl_go (x := (9, [a0, a1, a2, .int x3, a4, a5, a6, a7], [.int x3], f, m)) zh_X3_takeIn_8 rfl).trans ((zx_if (tgt := 64) zh_X3_takeIn_9 rfl))
theorem ze_X3_takeIn_12 {d : Nat} {f : zF} {m : zM} {a0 a1 a2 a3 a5 a6 a7 : Value} {x4 : Int32} : zex zTb d zqX3_takeIn 12 [a0, a1, a2, a3, .int x4, a5, a6, a7] [] f m = if zc1 .le x4 = true then zex zTb d zqX3_takeIn 64 [a0, a1, a2, a3, .int x4, a5, a6, a7] [] f m else zex zTb d zqX3_takeIn 17 [a0, a1, a2, a3, .int x4, a5, a6, a7] [] f m := (zxl_go (x := (14, [a0, a1, a2, a3, .int x4, a5, a6, a7], [.int x4], f, m)) zh_X3_takeIn_12 rfl).trans ((zx_if (tgt := 64) zh_X3_takeIn_14 rfl))
theorem ze_X3_takeIn_17 {d : Nat} {f : zF} {m : zM} {a0 a2 a3 a5 a6 a7 : Value} {x1 : Int64} {x4 : Int32} : zex zTb d zqX3_takeIn 17 [a0, .long x1, a2, a3, .int x4, a5, a6, a7] [] f m = zcal zTb (zrun zTb d 74 [.long x1, .int x4] f m) d zqX3_takeIn 20 23 [a0, .long x1, a2, a3, .int x4, a5, a6, a7] [] := (zxl_go (x := (18, [a0, .long x1, a2, a3, .int x4, a5, a6, a7], [.long x1], f, m)) zh_X3_takeIn_17 rfl).trans ((zxl_go (x := (20, [a0, .long x1, a2, a3, .int x4, a5, a6, a7], [.int x4, .long x1], f, m)) zh_X3_takeIn_18 rfl).trans (((zx_static zh_X3_takeIn_20 (Nat.le_of_ble_eq_true rfl) rfl rfl).trans (if_pos (Nat.le_of_ble_eq_true rfl)))))
theorem ze_X3_takeIn_23 {d : Nat} {f : zF} {m : zM} {a0 a1 a2 a3 a4 a5 a6 a7 : Value} {y0 : Int64} : zex zTb d zqX3_takeIn 23 [a0, a1, a2, a3, a4, a5, a6, a7] [.long y0] f m = zex zTb d zqX3_takeIn 28 [a0, a1, a2, a3, (zclr a4), .long y0, .null, .int (I 0)] [] f m := (zxl_go (x := (25, [a0, a1, a2, a3, (zclr a4), .long y0, .null, a7], [], f, m)) zh_X3_takeIn_23 rfl).trans ((zx_iconst zh_X3_takeIn_25).trans ((zxl_go (x := (28, [a0, a1, a2, a3, (zclr a4), .long y0, .null, .int (I 0)], [], f, m)) zh_X3_takeIn_26 rfl)))
theorem ze_X3_takeIn_28 {d : Nat} {f : zF} {m : zM} {a0 a1 a2 a4 a5 a6 a7 : Value} {x3 : Int32} : zex zTb d zqX3_takeIn 28 [a0, a1, a2, .int x3, a4, a5, a6, a7] [] f m = if zc1 .eq x3 = true then zex zTb d zqX3_takeIn 58 [a0, a1, a2, .int x3, a4, a5, a6, a7] [] f m else zex zTb d zqX3_takeIn 32 [a0, a1, a2, .int x3, a4, a5, a6, a7] [] f m := (zxl_go (x := (29, [a0, a1, a2, .int x3, a4, a5, a6, a7], [.int x3], f, m)) zh_X3_takeIn_28 rfl).trans ((zx_if (tgt := 58) zh_X3_takeIn_29 rfl))
theorem ze_X3_takeIn_32 {d : Nat} {f : zF} {m : zM} {a0 a1 a2 a3 a5 a6 : Value} {x4 x7 : Int32} : zex zTb d zqX3_takeIn 32 [a0, a1, a2, a3, .int x4, a5, a6, .int x7] [] f m = if zc2 .ge x7 x4 = true then zex zTb d zqX3_takeIn 58 [a0, a1, a2, a3, .int x4, a5, a6, .int x7] [] f m else zex zTb d zqX3_takeIn 39 [a0, a1, a2, a3, .int x4, a5, a6, .int x7] [] f m := (zxl_go (x := (34, [a0, a1, a2, a3, .int x4, a5, a6, .int x7], [.int x7], f, m)) zh_X3_takeIn_32 rfl).trans ((zxl_go (x := (36, [a0, a1, a2, a3, .int x4, a5, a6, .int x7], [.int x4, .int x7], f, m)) zh_X3_takeIn_34 rfl).trans ((zx_icmp (tgt := 58) zh_X3_takeIn_36 rfl)))
theorem ze_X3_takeIn_39 {d : Nat} {f : zF} {m : zM} {x0 : Nat} {a1 a2 a3 a4 a6 : Value} {x5 : Int64} {x7 : Int32} : zex zTb d zqX3_takeIn 39 [.ref x0, a1, a2, a3, a4, .long x5, a6, .int x7] [] f m = if zisc (f x0) 3 = true then zcal zTb (zrun zTb d 29 [.ref x0, .long ((x5.toUInt64 >>> (((I 8) * x7).toInt64.toUInt64 &&& Int64.toUInt64 63)).toInt64)] f m) d zqX3_takeIn 48 51 [.ref x0, a1, a2, a3, a4, .long x5, a6, .int x7] [] else none := (zxl_go (x := (40, [.ref x0, a1, a2, a3, a4, .long x5, a6, .int x7], [.ref x0], f, m)) zh_X3_takeIn_39 rfl).trans ((zxl_go (x := (42, [.ref x0, a1, a2, a3, a4, .long x5, a6, .int x7], [.long x5, .ref x0], f, m)) zh_X3_takeIn_40 rfl).trans ((zx_bipush zh_X3_takeIn_42 (by decide)).trans ((zxl_go (x := (46, [.ref x0, a1, a2, a3, a4, .long x5, a6, .int x7], [.int x7, .int (I 8), .long x5, .ref x0], f, m)) zh_X3_takeIn_44 rfl).trans ((zxl_go (x := (47, [.ref x0, a1, a2, a3, a4, .long x5, a6, .int x7], [.int ((I 8) * x7), .long x5, .ref x0], f, m)) zh_X3_takeIn_46 rfl).trans ((zxl_go (x := (48, [.ref x0, a1, a2, a3, a4, .long x5, a6, .int x7], [.long ((x5.toUInt64 >>> (((I 8) * x7).toInt64.toUInt64 &&& Int64.toUInt64 63)).toInt64), .ref x0], f, m)) zh_X3_takeIn_47 rfl).trans ((zx_virtual4 zh_X3_takeIn_48 (Nat.le_of_ble_eq_true rfl) rfl rfl (Nat.le_of_ble_eq_true rfl))))))))
theorem ze_X3_takeIn_51 {d : Nat} {f : zF} {m : zM} {a0 a1 a2 a3 a4 a5 a6 : Value} {x7 y0 : Int32} : zex zTb d zqX3_takeIn 51 [a0, a1, a2, a3, a4, a5, a6, .int x7] [.int y0] f m = zex zTb d zqX3_takeIn 28 [a0, a1, (zclr a2), .int y0, a4, a5, (zclr a6), .int (x7 + I 1)] [] f m := (zxl_go (x := (52, [a0, a1, (zclr a2), .int y0, a4, a5, a6, .int x7], [], f, m)) zh_X3_takeIn_51 rfl).trans ((zxl_go (x := (55, [a0, a1, (zclr a2), .int y0, a4, a5, (zclr a6), .int (x7 + I 1)], [], f, m)) zh_X3_takeIn_52 rfl).trans ((zx_goto zh_X3_takeIn_55 rfl)))
theorem ze_X3_takeIn_58 {d : Nat} {f : zF} {m : zM} {a0 a1 a2 a3 a5 a6 a7 : Value} {x4 : Int32} : zex zTb d zqX3_takeIn 58 [a0, a1, a2, a3, .int x4, a5, a6, a7] [] f m = zex zTb d zqX3_takeIn 8 [a0, a1, a2, (zclr a3), .int (x4 + I (-1)), a5, a6, a7] [] f m := (zxl_go (x := (61, [a0, a1, a2, (zclr a3), .int (x4 + I (-1)), a5, a6, a7], [], f, m)) zh_X3_takeIn_58 rfl).trans ((zx_goto zh_X3_takeIn_61 rfl))
theorem ze_X3_takeIn_64 {d : Nat} {f : zF} {m : zM} {a0 a1 a2 a4 a5 a6 a7 : Value} {x3 : Int32} : zex zTb d zqX3_takeIn 64 [a0, a1, a2, .int x3, a4, a5, a6, a7] [] f m = if (x3 = 0 ∨ x3 = 1) then some (.inl (some (.int x3)), f, m) else none := (zxl_go (x := (65, [a0, a1, a2, .int x3, a4, a5, a6, a7], [.int x3], f, m)) zh_X3_takeIn_64 rfl).trans ((zx_bret zh_X3_takeIn_65 rfl))
-- X3_insert
theorem zh_X3_insert_0 : zfe zqX3_insert.i 0 = some (0, .aload_n 0, 1, 0, 0, 0) := rfl
theorem zh_X3_insert_1 : zfe zqX3_insert.i 1 = some (1, .lload_n 1, 1, 0, 0, 0) := rfl
theorem zh_X3_insert_2 : zfe zqX3_insert.i 2 = some (2, .invokevirtual 33, 3, 30, 2, 3) := rfl
theorem zh_X3_insert_5 : zfe zqX3_insert.i 5 = some (5, .istore_n 3, 1, 0, 0, 0) := rfl
theorem zh_X3_insert_6 : zfe zqX3_insert.i 6 = some (6, .aload_n 0, 1, 0, 0, 0) := rfl
theorem zh_X3_insert_7 : zfe zqX3_insert.i 7 = some (7, .iload_n 3, 1, 0, 0, 0) := rfl
theorem zh_X3_insert_8 : zfe zqX3_insert.i 8 = some (8, .invokevirtual 36, 3, 25, 2, 3) := rfl
theorem zh_X3_insert_11 : zfe zqX3_insert.i 11 = some (11, .ifCond .eq 16, 3, 0, 0, 0) := rfl
theorem zh_X3_insert_14 : zfe zqX3_insert.i 14 = some (14, .aload_n 0, 1, 0, 0, 0) := rfl
theorem zh_X3_insert_15 : zfe zqX3_insert.i 15 = some (15, .getfield 9, 3, 3, 0, 0) := rfl
theorem zh_X3_insert_18 : zfe zqX3_insert.i 18 = some (18, .iload_n 3, 1, 0, 0, 0) := rfl
theorem zh_X3_insert_19 : zfe zqX3_insert.i 19 = some (19, .laload, 1, 0, 0, 0) := rfl
theorem zh_X3_insert_20 : zfe zqX3_insert.i 20 = some (20, .lload_n 1, 1, 0, 0, 0) := rfl
theorem zh_X3_insert_21 : zfe zqX3_insert.i 21 = some (21, .lcmp, 1, 0, 0, 0) := rfl
theorem zh_X3_insert_22 : zfe zqX3_insert.i 22 = some (22, .ifCond .ne 5, 3, 0, 0, 0) := rfl
theorem zh_X3_insert_25 : zfe zqX3_insert.i 25 = some (25, .iconst 1, 1, 0, 0, 0) := rfl
theorem zh_X3_insert_26 : zfe zqX3_insert.i 26 = some (26, .ireturn, 1, 0, 0, 0) := rfl
theorem zh_X3_insert_27 : zfe zqX3_insert.i 27 = some (27, .aload_n 0, 1, 0, 0, 0) := rfl
theorem zh_X3_insert_28 : zfe zqX3_insert.i 28 = some (28, .getfield 15, 3, 3, 1, 0) := rfl
theorem zh_X3_insert_31 : zfe zqX3_insert.i 31 = some (31, .aload_n 0, 1, 0, 0, 0) := rfl
theorem zh_X3_insert_32 : zfe zqX3_insert.i 32 = some (32, .getfield 9, 3, 3, 0, 0) := rfl
theorem zh_X3_insert_35 : zfe zqX3_insert.i 35 = some (35, .arraylength, 1, 0, 0, 0) := rfl
theorem zh_X3_insert_36 : zfe zqX3_insert.i 36 = some (36, .if_icmp .lt 5, 3, 0, 0, 0) := rfl
theorem zh_X3_insert_39 : zfe zqX3_insert.i 39 = some (39, .iconst 0, 1, 0, 0, 0) := rfl
theorem zh_X3_insert_40 : zfe zqX3_insert.i 40 = some (40, .ireturn, 1, 0, 0, 0) := rfl
theorem zh_X3_insert_41 : zfe zqX3_insert.i 41 = some (41, .aload_n 0, 1, 0, 0, 0) := rfl
theorem zh_X3_insert_42 : zfe zqX3_insert.i 42 = some (42, .getfield 15, 3, 3, 1, 0) := rfl
theorem zh_X3_insert_45 : zfe zqX3_insert.i 45 = some (45, .istore 4, 2, 0, 0, 0) := rfl
theorem zh_X3_insert_47 : zfe zqX3_insert.i 47 = some (47, .iload 4, 2, 0, 0, 0) := rfl
theorem zh_X3_insert_49 : zfe zqX3_insert.i 49 = some (49, .iload_n 3, 1, 0, 0, 0) := rfl
theorem zh_X3_insert_50 : zfe zqX3_insert.i 50 = some (50, .if_icmp .le 25, 3, 0, 0, 0) := rfl
theorem zh_X3_insert_53 : zfe zqX3_insert.i 53 = some (53, .aload_n 0, 1, 0, 0, 0) := rfl
theorem zh_X3_insert_54 : zfe zqX3_insert.i 54 = some (54, .getfield 9, 3, 3, 0, 0) := rfl
theorem zh_X3_insert_57 : zfe zqX3_insert.i 57 = some (57, .iload 4, 2, 0, 0, 0) := rfl
theorem zh_X3_insert_59 : zfe zqX3_insert.i 59 = some (59, .aload_n 0, 1, 0, 0, 0) := rfl
theorem zh_X3_insert_60 : zfe zqX3_insert.i 60 = some (60, .getfield 9, 3, 3, 0, 0) := rfl
theorem zh_X3_insert_63 : zfe zqX3_insert.i 63 = some (63, .iload 4, 2, 0, 0, 0) := rfl
theorem zh_X3_insert_65 : zfe zqX3_insert.i 65 = some (65, .iconst 1, 1, 0, 0, 0) := rfl
theorem zh_X3_insert_66 : zfe zqX3_insert.i 66 = some (66, .isub, 1, 0, 0, 0) := rfl
theorem zh_X3_insert_67 : zfe zqX3_insert.i 67 = some (67, .laload, 1, 0, 0, 0) := rfl
theorem zh_X3_insert_68 : zfe zqX3_insert.i 68 = some (68, .lastore, 1, 0, 0, 0) := rfl
theorem zh_X3_insert_69 : zfe zqX3_insert.i 69 = some (69, .iinc 4 (-1), 3, 0, 0, 0) := rfl
theorem zh_X3_insert_72 : zfe zqX3_insert.i 72 = some (72, .goto (-25), 3, 0, 0, 0) := rfl
theorem zh_X3_insert_75 : zfe zqX3_insert.i 75 = some (75, .aload_n 0, 1, 0, 0, 0) := rfl
theorem zh_X3_insert_76 : zfe zqX3_insert.i 76 = some (76, .getfield 9, 3, 3, 0, 0) := rfl
theorem zh_X3_insert_79 : zfe zqX3_insert.i 79 = some (79, .iload_n 3, 1, 0, 0, 0) := rfl
theorem zh_X3_insert_80 : zfe zqX3_insert.i 80 = some (80, .lload_n 1, 1, 0, 0, 0) := rfl
theorem zh_X3_insert_81 : zfe zqX3_insert.i 81 = some (81, .lastore, 1, 0, 0, 0) := rfl
theorem zh_X3_insert_82 : zfe zqX3_insert.i 82 = some (82, .aload_n 0, 1, 0, 0, 0) := rfl
theorem zh_X3_insert_83 : zfe zqX3_insert.i 83 = some (83, .dup, 1, 0, 0, 0) := rfl
theorem zh_X3_insert_84 : zfe zqX3_insert.i 84 = some (84, .getfield 15, 3, 3, 1, 0) := rfl
theorem zh_X3_insert_87 : zfe zqX3_insert.i 87 = some (87, .iconst 1, 1, 0, 0, 0) := rfl
theorem zh_X3_insert_88 : zfe zqX3_insert.i 88 = some (88, .iadd, 1, 0, 0, 0) := rfl
theorem zh_X3_insert_89 : zfe zqX3_insert.i 89 = some (89, .putfield 15, 3, 3, 1, 0) := rfl
theorem zh_X3_insert_92 : zfe zqX3_insert.i 92 = some (92, .iconst 1, 1, 0, 0, 0) := rfl
theorem zh_X3_insert_93 : zfe zqX3_insert.i 93 = some (93, .ireturn, 1, 0, 0, 0) := rfl
theorem ze_X3_insert_0 {d : Nat} {f : zF} {m : zM} {x0 : Nat} {x1 : Int64} {a2 a3 a4 : Value} : zex zTb d zqX3_insert 0 [.ref x0, .long x1, a2, a3, a4] [] f m = if zisc (f x0) 3 = true then zcal zTb (zrun zTb d 30 [.ref x0, .long x1] f m) d zqX3_insert 2 5 [.ref x0, .long x1, a2, a3, a4] [] else none := (zxl_go (x := (1, [.ref x0, .long x1, a2, a3, a4], [.ref x0], f, m)) zh_X3_insert_0 rfl).trans ((zxl_go (x := (2, [.ref x0, .long x1, a2, a3, a4], [.long x1, .ref x0], f, m)) zh_X3_insert_1 rfl).trans ((zx_virtual4 zh_X3_insert_2 (Nat.le_of_ble_eq_true rfl) rfl rfl (Nat.le_of_ble_eq_true rfl))))
theorem ze_X3_insert_5 {d : Nat} {f : zF} {m : zM} {x0 : Nat} {a1 a2 a3 a4 : Value} {y0 : Int32} : zex zTb d zqX3_insert 5 [.ref x0, a1, a2, a3, a4] [.int y0] f m = if zisc (f x0) 3 = true then zcal zTb (zrun zTb d 25 [.ref x0, .int y0] f m) d zqX3_insert 8 11 [.ref x0, a1, (zclr a2), .int y0, a4] [] else none := (zxl_go (x := (6, [.ref x0, a1, (zclr a2), .int y0, a4], [], f, m)) zh_X3_insert_5 rfl).trans ((zxl_go (x := (7, [.ref x0, a1, (zclr a2), .int y0, a4], [.ref x0], f, m)) zh_X3_insert_6 rfl).trans ((zxl_go (x := (8, [.ref x0, a1, (zclr a2), .int y0, a4], [.int y0, .ref x0], f, m)) zh_X3_insert_7 rfl).trans ((zx_virtual4 zh_X3_insert_8 (Nat.le_of_ble_eq_true rfl) rfl rfl (Nat.le_of_ble_eq_true rfl)))))
theorem ze_X3_insert_11 {d : Nat} {f : zF} {m : zM} {a0 a1 a2 a3 a4 : Value} {y0 : Int32} : zex zTb d zqX3_insert 11 [a0, a1, a2, a3, a4] [.int y0] f m = if zc1 .eq y0 = true then zex zTb d zqX3_insert 27 [a0, a1, a2, a3, a4] [] f m else zex zTb d zqX3_insert 14 [a0, a1, a2, a3, a4] [] f m := (zx_if (tgt := 27) zh_X3_insert_11 rfl)
theorem ze_X3_insert_14 {d : Nat} {f : zF} {m : zM} {x0 : Nat} {a1 a2 a3 a4 : Value} : zex zTb d zqX3_insert 14 [.ref x0, a1, a2, a3, a4] [] f m = if zco (f x0) 3 0 = true then zex zTb d zqX3_insert 18 [.ref x0, a1, a2, a3, a4] [zcf (f x0) 0] f m else none := (zxl_go (x := (15, [.ref x0, a1, a2, a3, a4], [.ref x0], f, m)) zh_X3_insert_14 rfl).trans ((zx_getfield zh_X3_insert_15))
theorem ze_X3_insert_18 {d : Nat} {f : zF} {m : zM} {a0 a1 a2 a4 : Value} {x3 : Int32} {y0 : Nat} : zex zTb d zqX3_insert 18 [a0, a1, a2, .int x3, a4] [.ref y0] f m = if zrl (f y0) x3 = true then zex zTb d zqX3_insert 20 [a0, a1, a2, .int x3, a4] [.long (zgl (f y0) x3.toNatClampNeg)] f m else none := (zxl_go (x := (19, [a0, a1, a2, .int x3, a4], [.int x3, .ref y0], f, m)) zh_X3_insert_18 rfl).trans ((zx_laload zh_X3_insert_19))
theorem ze_X3_insert_20 {d : Nat} {f : zF} {m : zM} {a0 a2 a3 a4 : Value} {x1 y0 : Int64} : zex zTb d zqX3_insert 20 [a0, .long x1, a2, a3, a4] [.long y0] f m = if zc1 .ne (lg_cmp y0 x1) = true then zex zTb d zqX3_insert 27 [a0, .long x1, a2, a3, a4] [] f m else zex zTb d zqX3_insert 25 [a0, .long x1, a2, a3, a4] [] f m := (zxl_go (x := (21, [a0, .long x1, a2, a3, a4], [.long x1, .long y0], f, m)) zh_X3_insert_20 rfl).trans ((zxl_go (x := (22, [a0, .long x1, a2, a3, a4], [.int (lg_cmp y0 x1)], f, m)) zh_X3_insert_21 rfl).trans ((zx_if (tgt := 27) zh_X3_insert_22 rfl)))
theorem ze_X3_insert_25 {d : Nat} {f : zF} {m : zM} {a0 a1 a2 a3 a4 : Value} : zex zTb d zqX3_insert 25 [a0, a1, a2, a3, a4] [] f m = some (.inl (some (.int (I 1))), f, m) := (zx_iconst zh_X3_insert_25).trans ((zx_iret zh_X3_insert_26 (by first | rfl | decide)))
theorem ze_X3_insert_27 {d : Nat} {f : zF} {m : zM} {x0 : Nat} {a1 a2 a3 a4 : Value} : zex zTb d zqX3_insert 27 [.ref x0, a1, a2, a3, a4] [] f m = if zco (f x0) 3 1 = true then zex zTb d zqX3_insert 31 [.ref x0, a1, a2, a3, a4] [zcf (f x0) 1] f m else none := (zxl_go (x := (28, [.ref x0, a1, a2, a3, a4], [.ref x0], f, m)) zh_X3_insert_27 rfl).trans ((zx_getfield zh_X3_insert_28))
theorem ze_X3_insert_31 {d : Nat} {f : zF} {m : zM} {x0 : Nat} {a1 a2 a3 a4 : Value} {y0 : Int32} : zex zTb d zqX3_insert 31 [.ref x0, a1, a2, a3, a4] [.int y0] f m = if zco (f x0) 3 0 = true then zex zTb d zqX3_insert 35 [.ref x0, a1, a2, a3, a4] [zcf (f x0) 0, .int y0] f m else none := (zxl_go (x := (32, [.ref x0, a1, a2, a3, a4], [.ref x0, .int y0], f, m)) zh_X3_insert_31 rfl).trans ((zx_getfield zh_X3_insert_32))
theorem ze_X3_insert_35 {d : Nat} {f : zF} {m : zM} {a0 a1 a2 a3 a4 : Value} {y0 : Int32} {y1 : Nat} : zex zTb d zqX3_insert 35 [a0, a1, a2, a3, a4] [.ref y1, .int y0] f m = if zisa (f y1) = true then zex zTb d zqX3_insert 36 [a0, a1, a2, a3, a4] [.int (Int32.ofNat (zln (f y1))), .int y0] f m else none := (zx_alen zh_X3_insert_35)
theorem ze_X3_insert_36 {d : Nat} {f : zF} {m : zM} {a0 a1 a2 a3 a4 : Value} {y0 y1 : Int32} : zex zTb d zqX3_insert 36 [a0, a1, a2, a3, a4] [.int y1, .int y0] f m = if zc2 .lt y0 y1 = true then zex zTb d zqX3_insert 41 [a0, a1, a2, a3, a4] [] f m else zex zTb d zqX3_insert 39 [a0, a1, a2, a3, a4] [] f m := (zx_icmp (tgt := 41) zh_X3_insert_36 rfl)
theorem ze_X3_insert_39 {d : Nat} {f : zF} {m : zM} {a0 a1 a2 a3 a4 : Value} : zex zTb d zqX3_insert 39 [a0, a1, a2, a3, a4] [] f m = some (.inl (some (.int (I 0))), f, m) := (zx_iconst zh_X3_insert_39).trans ((zx_iret zh_X3_insert_40 (by first | rfl | decide)))
theorem ze_X3_insert_41 {d : Nat} {f : zF} {m : zM} {x0 : Nat} {a1 a2 a3 a4 : Value} : zex zTb d zqX3_insert 41 [.ref x0, a1, a2, a3, a4] [] f m = if zco (f x0) 3 1 = true then zex zTb d zqX3_insert 45 [.ref x0, a1, a2, a3, a4] [zcf (f x0) 1] f m else none := (zxl_go (x := (42, [.ref x0, a1, a2, a3, a4], [.ref x0], f, m)) zh_X3_insert_41 rfl).trans ((zx_getfield zh_X3_insert_42))
theorem ze_X3_insert_45 {d : Nat} {f : zF} {m : zM} {a0 a1 a2 a3 a4 : Value} {y0 : Int32} : zex zTb d zqX3_insert 45 [a0, a1, a2, a3, a4] [.int y0] f m = zex zTb d zqX3_insert 47 [a0, a1, a2, (zclr a3), .int y0] [] f m := (zxl_go (x := (47, [a0, a1, a2, (zclr a3), .int y0], [], f, m)) zh_X3_insert_45 rfl)
theorem ze_X3_insert_47 {d : Nat} {f : zF} {m : zM} {a0 a1 a2 : Value} {x3 x4 : Int32} : zex zTb d zqX3_insert 47 [a0, a1, a2, .int x3, .int x4] [] f m = if zc2 .le x4 x3 = true then zex zTb d zqX3_insert 75 [a0, a1, a2, .int x3, .int x4] [] f m else zex zTb d zqX3_insert 53 [a0, a1, a2, .int x3, .int x4] [] f m := (zxl_go (x := (49, [a0, a1, a2, .int x3, .int x4], [.int x4], f, m)) zh_X3_insert_47 rfl).trans ((zxl_go (x := (50, [a0, a1, a2, .int x3, .int x4], [.int x3, .int x4], f, m)) zh_X3_insert_49 rfl).trans ((zx_icmp (tgt := 75) zh_X3_insert_50 rfl)))
theorem ze_X3_insert_53 {d : Nat} {f : zF} {m : zM} {x0 : Nat} {a1 a2 a3 a4 : Value} : zex zTb d zqX3_insert 53 [.ref x0, a1, a2, a3, a4] [] f m = if zco (f x0) 3 0 = true then zex zTb d zqX3_insert 57 [.ref x0, a1, a2, a3, a4] [zcf (f x0) 0] f m else none := (zxl_go (x := (54, [.ref x0, a1, a2, a3, a4], [.ref x0], f, m)) zh_X3_insert_53 rfl).trans ((zx_getfield zh_X3_insert_54))
theorem ze_X3_insert_57 {d : Nat} {f : zF} {m : zM} {x0 y0 : Nat} {a1 a2 a3 : Value} {x4 : Int32} : zex zTb d zqX3_insert 57 [.ref x0, a1, a2, a3, .int x4] [.ref y0] f m = if zco (f x0) 3 0 = true then zex zTb d zqX3_insert 63 [.ref x0, a1, a2, a3, .int x4] [zcf (f x0) 0, .int x4, .ref y0] f m else none := (zxl_go (x := (59, [.ref x0, a1, a2, a3, .int x4], [.int x4, .ref y0], f, m)) zh_X3_insert_57 rfl).trans ((zxl_go (x := (60, [.ref x0, a1, a2, a3, .int x4], [.ref x0, .int x4, .ref y0], f, m)) zh_X3_insert_59 rfl).trans ((zx_getfield zh_X3_insert_60)))
theorem ze_X3_insert_63 {d : Nat} {f : zF} {m : zM} {a0 a1 a2 a3 : Value} {x4 y1 : Int32} {y0 y2 : Nat} : zex zTb d zqX3_insert 63 [a0, a1, a2, a3, .int x4] [.ref y2, .int y1, .ref y0] f m = if zrl (f y2) (x4 - (I 1)) = true then zex zTb d zqX3_insert 68 [a0, a1, a2, a3, .int x4] [.long (zgl (f y2) (x4 - (I 1)).toNatClampNeg), .int y1, .ref y0] f m else none := (zxl_go (x := (65, [a0, a1, a2, a3, .int x4], [.int x4, .ref y2, .int y1, .ref y0], f, m)) zh_X3_insert_63 rfl).trans ((zx_iconst zh_X3_insert_65).trans ((zxl_go (x := (67, [a0, a1, a2, a3, .int x4], [.int (x4 - (I 1)), .ref y2, .int y1, .ref y0], f, m)) zh_X3_insert_66 rfl).trans ((zx_laload zh_X3_insert_67))))
theorem ze_X3_insert_68 {d : Nat} {f : zF} {m : zM} {a0 a1 a2 a3 a4 : Value} {y0 : Nat} {y1 : Int32} {y2 : Int64} : zex zTb d zqX3_insert 68 [a0, a1, a2, a3, a4] [.long y2, .int y1, .ref y0] f m = if zrl (f y0) y1 = true then zex zTb d zqX3_insert 69 [a0, a1, a2, a3, a4] [] (zup f y0 (zwl (f y0) y1.toNatClampNeg y2)) m else none := (zx_lastore zh_X3_insert_68)
theorem ze_X3_insert_69 {d : Nat} {f : zF} {m : zM} {a0 a1 a2 a3 : Value} {x4 : Int32} : zex zTb d zqX3_insert 69 [a0, a1, a2, a3, .int x4] [] f m = zex zTb d zqX3_insert 47 [a0, a1, a2, (zclr a3), .int (x4 + I (-1))] [] f m := (zxl_go (x := (72, [a0, a1, a2, (zclr a3), .int (x4 + I (-1))], [], f, m)) zh_X3_insert_69 rfl).trans ((zx_goto zh_X3_insert_72 rfl))
theorem ze_X3_insert_75 {d : Nat} {f : zF} {m : zM} {x0 : Nat} {a1 a2 a3 a4 : Value} : zex zTb d zqX3_insert 75 [.ref x0, a1, a2, a3, a4] [] f m = if zco (f x0) 3 0 = true then zex zTb d zqX3_insert 79 [.ref x0, a1, a2, a3, a4] [zcf (f x0) 0] f m else none := (zxl_go (x := (76, [.ref x0, a1, a2, a3, a4], [.ref x0], f, m)) zh_X3_insert_75 rfl).trans ((zx_getfield zh_X3_insert_76))
theorem ze_X3_insert_79 {d : Nat} {f : zF} {m : zM} {a0 a2 a4 : Value} {x1 : Int64} {x3 : Int32} {y0 : Nat} : zex zTb d zqX3_insert 79 [a0, .long x1, a2, .int x3, a4] [.ref y0] f m = if zrl (f y0) x3 = true then zex zTb d zqX3_insert 82 [a0, .long x1, a2, .int x3, a4] [] (zup f y0 (zwl (f y0) x3.toNatClampNeg x1)) m else none := (zxl_go (x := (80, [a0, .long x1, a2, .int x3, a4], [.int x3, .ref y0], f, m)) zh_X3_insert_79 rfl).trans ((zxl_go (x := (81, [a0, .long x1, a2, .int x3, a4], [.long x1, .int x3, .ref y0], f, m)) zh_X3_insert_80 rfl).trans ((zx_lastore zh_X3_insert_81)))
theorem ze_X3_insert_82 {d : Nat} {f : zF} {m : zM} {x0 : Nat} {a1 a2 a3 a4 : Value} : zex zTb d zqX3_insert 82 [.ref x0, a1, a2, a3, a4] [] f m = if zco (f x0) 3 1 = true then zex zTb d zqX3_insert 87 [.ref x0, a1, a2, a3, a4] [zcf (f x0) 1, .ref x0] f m else none := (zxl_go (x := (83, [.ref x0, a1, a2, a3, a4], [.ref x0], f, m)) zh_X3_insert_82 rfl).trans ((zxl_go (x := (84, [.ref x0, a1, a2, a3, a4], [.ref x0, .ref x0], f, m)) zh_X3_insert_83 rfl).trans ((zx_getfield zh_X3_insert_84)))
theorem ze_X3_insert_87 {d : Nat} {f : zF} {m : zM} {a0 a1 a2 a3 a4 : Value} {y0 : Nat} {y1 : Int32} : zex zTb d zqX3_insert 87 [a0, a1, a2, a3, a4] [.int y1, .ref y0] f m = if (zco (f y0) 3 1 && zok (zfty 3 1) (.int (y1 + (I 1)))) = true then zex zTb d zqX3_insert 92 [a0, a1, a2, a3, a4] [] (zup f y0 (zcs (f y0) 1 (.int (y1 + (I 1))))) m else none := (zx_iconst zh_X3_insert_87).trans ((zxl_go (x := (89, [a0, a1, a2, a3, a4], [.int (y1 + (I 1)), .ref y0], f, m)) zh_X3_insert_88 rfl).trans ((zx_putfield zh_X3_insert_89)))
theorem ze_X3_insert_92 {d : Nat} {f : zF} {m : zM} {a0 a1 a2 a3 a4 : Value} : zex zTb d zqX3_insert 92 [a0, a1, a2, a3, a4] [] f m = some (.inl (some (.int (I 1))), f, m) := (zx_iconst zh_X3_insert_92).trans ((zx_iret zh_X3_insert_93 (by first | rfl | decide)))
-- X3_earlierThan
theorem zh_X3_earlierThan_0 : zfe zqX3_earlierThan.i 0 = some (0, .iconst 0, 1, 0, 0, 0) := rfl
theorem zh_X3_earlierThan_1 : zfe zqX3_earlierThan.i 1 = some (1, .istore_n 3, 1, 0, 0, 0) := rfl
theorem zh_X3_earlierThan_2 : zfe zqX3_earlierThan.i 2 = some (2, .bipush 32, 2, 0, 0, 0) := rfl
theorem zh_X3_earlierThan_4 : zfe zqX3_earlierThan.i 4 = some (4, .istore 4, 2, 0, 0, 0) := rfl
theorem zh_X3_earlierThan_6 : zfe zqX3_earlierThan.i 6 = some (6, .iload 4, 2, 0, 0, 0) := rfl
theorem zh_X3_earlierThan_8 : zfe zqX3_earlierThan.i 8 = some (8, .ifCond .le 44, 3, 0, 0, 0) := rfl
theorem zh_X3_earlierThan_11 : zfe zqX3_earlierThan.i 11 = some (11, .iload_n 3, 1, 0, 0, 0) := rfl
theorem zh_X3_earlierThan_12 : zfe zqX3_earlierThan.i 12 = some (12, .iload 4, 2, 0, 0, 0) := rfl
theorem zh_X3_earlierThan_14 : zfe zqX3_earlierThan.i 14 = some (14, .iadd, 1, 0, 0, 0) := rfl
theorem zh_X3_earlierThan_15 : zfe zqX3_earlierThan.i 15 = some (15, .istore 5, 2, 0, 0, 0) := rfl
theorem zh_X3_earlierThan_17 : zfe zqX3_earlierThan.i 17 = some (17, .iload 5, 2, 0, 0, 0) := rfl
theorem zh_X3_earlierThan_19 : zfe zqX3_earlierThan.i 19 = some (19, .aload_n 0, 1, 0, 0, 0) := rfl
theorem zh_X3_earlierThan_20 : zfe zqX3_earlierThan.i 20 = some (20, .getfield 15, 3, 3, 1, 0) := rfl
theorem zh_X3_earlierThan_23 : zfe zqX3_earlierThan.i 23 = some (23, .if_icmp .gt 20, 3, 0, 0, 0) := rfl
theorem zh_X3_earlierThan_26 : zfe zqX3_earlierThan.i 26 = some (26, .aload_n 0, 1, 0, 0, 0) := rfl
theorem zh_X3_earlierThan_27 : zfe zqX3_earlierThan.i 27 = some (27, .getfield 9, 3, 3, 0, 0) := rfl
theorem zh_X3_earlierThan_30 : zfe zqX3_earlierThan.i 30 = some (30, .iload 5, 2, 0, 0, 0) := rfl
theorem zh_X3_earlierThan_32 : zfe zqX3_earlierThan.i 32 = some (32, .iconst 1, 1, 0, 0, 0) := rfl
theorem zh_X3_earlierThan_33 : zfe zqX3_earlierThan.i 33 = some (33, .isub, 1, 0, 0, 0) := rfl
theorem zh_X3_earlierThan_34 : zfe zqX3_earlierThan.i 34 = some (34, .laload, 1, 0, 0, 0) := rfl
theorem zh_X3_earlierThan_35 : zfe zqX3_earlierThan.i 35 = some (35, .lload_n 1, 1, 0, 0, 0) := rfl
theorem zh_X3_earlierThan_36 : zfe zqX3_earlierThan.i 36 = some (36, .lcmp, 1, 0, 0, 0) := rfl
theorem zh_X3_earlierThan_37 : zfe zqX3_earlierThan.i 37 = some (37, .ifCond .ge 6, 3, 0, 0, 0) := rfl
theorem zh_X3_earlierThan_40 : zfe zqX3_earlierThan.i 40 = some (40, .iload 5, 2, 0, 0, 0) := rfl
theorem zh_X3_earlierThan_42 : zfe zqX3_earlierThan.i 42 = some (42, .istore_n 3, 1, 0, 0, 0) := rfl
theorem zh_X3_earlierThan_43 : zfe zqX3_earlierThan.i 43 = some (43, .iload 4, 2, 0, 0, 0) := rfl
theorem zh_X3_earlierThan_45 : zfe zqX3_earlierThan.i 45 = some (45, .iconst 2, 1, 0, 0, 0) := rfl
theorem zh_X3_earlierThan_46 : zfe zqX3_earlierThan.i 46 = some (46, .idiv, 1, 0, 0, 0) := rfl
theorem zh_X3_earlierThan_47 : zfe zqX3_earlierThan.i 47 = some (47, .istore 4, 2, 0, 0, 0) := rfl
theorem zh_X3_earlierThan_49 : zfe zqX3_earlierThan.i 49 = some (49, .goto (-43), 3, 0, 0, 0) := rfl
theorem zh_X3_earlierThan_52 : zfe zqX3_earlierThan.i 52 = some (52, .iload_n 3, 1, 0, 0, 0) := rfl
theorem zh_X3_earlierThan_53 : zfe zqX3_earlierThan.i 53 = some (53, .ireturn, 1, 0, 0, 0) := rfl
theorem ze_X3_earlierThan_0 {d : Nat} {f : zF} {m : zM} {a0 a1 a2 a3 a4 a5 : Value} : zex zTb d zqX3_earlierThan 0 [a0, a1, a2, a3, a4, a5] [] f m = zex zTb d zqX3_earlierThan 6 [a0, a1, (zclr a2), .int (I 0), .int (I 32), a5] [] f m := (zx_iconst zh_X3_earlierThan_0).trans ((zxl_go (x := (2, [a0, a1, (zclr a2), .int (I 0), a4, a5], [], f, m)) zh_X3_earlierThan_1 rfl).trans ((zx_bipush zh_X3_earlierThan_2 (by decide)).trans ((zxl_go (x := (6, [a0, a1, (zclr a2), .int (I 0), .int (I 32), a5], [], f, m)) zh_X3_earlierThan_4 rfl))))
theorem ze_X3_earlierThan_6 {d : Nat} {f : zF} {m : zM} {a0 a1 a2 a3 a5 : Value} {x4 : Int32} : zex zTb d zqX3_earlierThan 6 [a0, a1, a2, a3, .int x4, a5] [] f m = if zc1 .le x4 = true then zex zTb d zqX3_earlierThan 52 [a0, a1, a2, a3, .int x4, a5] [] f m else zex zTb d zqX3_earlierThan 11 [a0, a1, a2, a3, .int x4, a5] [] f m := (zxl_go (x := (8, [a0, a1, a2, a3, .int x4, a5], [.int x4], f, m)) zh_X3_earlierThan_6 rfl).trans ((zx_if (tgt := 52) zh_X3_earlierThan_8 rfl))
theorem ze_X3_earlierThan_11 {d : Nat} {f : zF} {m : zM} {x0 : Nat} {a1 a2 a5 : Value} {x3 x4 : Int32} : zex zTb d zqX3_earlierThan 11 [.ref x0, a1, a2, .int x3, .int x4, a5] [] f m = if zco (f x0) 3 1 = true then zex zTb d zqX3_earlierThan 23 [.ref x0, a1, a2, .int x3, .int x4, .int (x3 + x4)] [zcf (f x0) 1, .int (x3 + x4)] f m else none := (zxl_go (x := (12, [.ref x0, a1, a2, .int x3, .int x4, a5], [.int x3], f, m)) zh_X3_earlierThan_11 rfl).trans ((zxl_go (x := (14, [.ref x0, a1, a2, .int x3, .int x4, a5], [.int x4, .int x3], f, m)) zh_X3_earlierThan_12 rfl).trans ((zxl_go (x := (15, [.ref x0, a1, a2, .int x3, .int x4, a5], [.int (x3 + x4)], f, m)) zh_X3_earlierThan_14 rfl).trans ((zxl_go (x := (17, [.ref x0, a1, a2, .int x3, .int x4, .int (x3 + x4)], [], f, m)) zh_X3_earlierThan_15 rfl).trans ((zxl_go (x := (19, [.ref x0, a1, a2, .int x3, .int x4, .int (x3 + x4)], [.int (x3 + x4)], f, m)) zh_X3_earlierThan_17 rfl).trans ((zxl_go (x := (20, [.ref x0, a1, a2, .int x3, .int x4, .int (x3 + x4)], [.ref x0, .int (x3 + x4)], f, m)) zh_X3_earlierThan_19 rfl).trans ((zx_getfield zh_X3_earlierThan_20)))))))
theorem ze_X3_earlierThan_23 {d : Nat} {f : zF} {m : zM} {a0 a1 a2 a3 a4 a5 : Value} {y0 y1 : Int32} : zex zTb d zqX3_earlierThan 23 [a0, a1, a2, a3, a4, a5] [.int y1, .int y0] f m = if zc2 .gt y0 y1 = true then zex zTb d zqX3_earlierThan 43 [a0, a1, a2, a3, a4, a5] [] f m else zex zTb d zqX3_earlierThan 26 [a0, a1, a2, a3, a4, a5] [] f m := (zx_icmp (tgt := 43) zh_X3_earlierThan_23 rfl)
theorem ze_X3_earlierThan_26 {d : Nat} {f : zF} {m : zM} {x0 : Nat} {a1 a2 a3 a4 a5 : Value} : zex zTb d zqX3_earlierThan 26 [.ref x0, a1, a2, a3, a4, a5] [] f m = if zco (f x0) 3 0 = true then zex zTb d zqX3_earlierThan 30 [.ref x0, a1, a2, a3, a4, a5] [zcf (f x0) 0] f m else none := (zxl_go (x := (27, [.ref x0, a1, a2, a3, a4, a5], [.ref x0], f, m)) zh_X3_earlierThan_26 rfl).trans ((zx_getfield zh_X3_earlierThan_27))
theorem ze_X3_earlierThan_30 {d : Nat} {f : zF} {m : zM} {a0 a1 a2 a3 a4 : Value} {x5 : Int32} {y0 : Nat} : zex zTb d zqX3_earlierThan 30 [a0, a1, a2, a3, a4, .int x5] [.ref y0] f m = if zrl (f y0) (x5 - (I 1)) = true then zex zTb d zqX3_earlierThan 35 [a0, a1, a2, a3, a4, .int x5] [.long (zgl (f y0) (x5 - (I 1)).toNatClampNeg)] f m else none := (zxl_go (x := (32, [a0, a1, a2, a3, a4, .int x5], [.int x5, .ref y0], f, m)) zh_X3_earlierThan_30 rfl).trans ((zx_iconst zh_X3_earlierThan_32).trans ((zxl_go (x := (34, [a0, a1, a2, a3, a4, .int x5], [.int (x5 - (I 1)), .ref y0], f, m)) zh_X3_earlierThan_33 rfl).trans ((zx_laload zh_X3_earlierThan_34))))
theorem ze_X3_earlierThan_35 {d : Nat} {f : zF} {m : zM} {a0 a2 a3 a4 a5 : Value} {x1 y0 : Int64} : zex zTb d zqX3_earlierThan 35 [a0, .long x1, a2, a3, a4, a5] [.long y0] f m = if zc1 .ge (lg_cmp y0 x1) = true then zex zTb d zqX3_earlierThan 43 [a0, .long x1, a2, a3, a4, a5] [] f m else zex zTb d zqX3_earlierThan 40 [a0, .long x1, a2, a3, a4, a5] [] f m := (zxl_go (x := (36, [a0, .long x1, a2, a3, a4, a5], [.long x1, .long y0], f, m)) zh_X3_earlierThan_35 rfl).trans ((zxl_go (x := (37, [a0, .long x1, a2, a3, a4, a5], [.int (lg_cmp y0 x1)], f, m)) zh_X3_earlierThan_36 rfl).trans ((zx_if (tgt := 43) zh_X3_earlierThan_37 rfl)))
theorem ze_X3_earlierThan_40 {d : Nat} {f : zF} {m : zM} {a0 a1 a2 a3 : Value} {x4 x5 : Int32} : zex zTb d zqX3_earlierThan 40 [a0, a1, a2, a3, .int x4, .int x5] [] f m = if ¬ (I 2) = 0 then zex zTb d zqX3_earlierThan 47 [a0, a1, (zclr a2), .int x5, .int x4, .int x5] [.int (x4 / (I 2))] f m else none := (zxl_go (x := (42, [a0, a1, a2, a3, .int x4, .int x5], [.int x5], f, m)) zh_X3_earlierThan_40 rfl).trans ((zxl_go (x := (43, [a0, a1, (zclr a2), .int x5, .int x4, .int x5], [], f, m)) zh_X3_earlierThan_42 rfl).trans ((zxl_go (x := (45, [a0, a1, (zclr a2), .int x5, .int x4, .int x5], [.int x4], f, m)) zh_X3_earlierThan_43 rfl).trans ((zx_iconst zh_X3_earlierThan_45).trans ((zx_idiv zh_X3_earlierThan_46)))))
theorem ze_X3_earlierThan_43 {d : Nat} {f : zF} {m : zM} {a0 a1 a2 a3 a5 : Value} {x4 : Int32} : zex zTb d zqX3_earlierThan 43 [a0, a1, a2, a3, .int x4, a5] [] f m = if ¬ (I 2) = 0 then zex zTb d zqX3_earlierThan 47 [a0, a1, a2, a3, .int x4, a5] [.int (x4 / (I 2))] f m else none := (zxl_go (x := (45, [a0, a1, a2, a3, .int x4, a5], [.int x4], f, m)) zh_X3_earlierThan_43 rfl).trans ((zx_iconst zh_X3_earlierThan_45).trans ((zx_idiv zh_X3_earlierThan_46)))
theorem ze_X3_earlierThan_47 {d : Nat} {f : zF} {m : zM} {a0 a1 a2 a3 a4 a5 : Value} {y0 : Int32} : zex zTb d zqX3_earlierThan 47 [a0, a1, a2, a3, a4, a5] [.int y0] f m = zex zTb d zqX3_earlierThan 6 [a0, a1, a2, (zclr a3), .int y0, a5] [] f m := (zxl_go (x := (49, [a0, a1, a2, (zclr a3), .int y0, a5], [], f, m)) zh_X3_earlierThan_47 rfl).trans ((zx_goto zh_X3_earlierThan_49 rfl))
theorem ze_X3_earlierThan_52 {d : Nat} {f : zF} {m : zM} {a0 a1 a2 a4 a5 : Value} {x3 : Int32} : zex zTb d zqX3_earlierThan 52 [a0, a1, a2, .int x3, a4, a5] [] f m = some (.inl (some (.int x3)), f, m) := (zxl_go (x := (53, [a0, a1, a2, .int x3, a4, a5], [.int x3], f, m)) zh_X3_earlierThan_52 rfl).trans ((zx_iret zh_X3_earlierThan_53 (by first | rfl | decide)))
-- X3_placeOf
theorem zh_X3_placeOf_0 : zfe zqX3_placeOf.i 0 = some (0, .aload_n 0, 1, 0, 0, 0) := rfl
theorem zh_X3_placeOf_1 : zfe zqX3_placeOf.i 1 = some (1, .lload_n 1, 1, 0, 0, 0) := rfl
theorem zh_X3_placeOf_2 : zfe zqX3_placeOf.i 2 = some (2, .invokevirtual 33, 3, 30, 2, 3) := rfl
theorem zh_X3_placeOf_5 : zfe zqX3_placeOf.i 5 = some (5, .istore_n 3, 1, 0, 0, 0) := rfl
theorem zh_X3_placeOf_6 : zfe zqX3_placeOf.i 6 = some (6, .aload_n 0, 1, 0, 0, 0) := rfl
theorem zh_X3_placeOf_7 : zfe zqX3_placeOf.i 7 = some (7, .iload_n 3, 1, 0, 0, 0) := rfl
theorem zh_X3_placeOf_8 : zfe zqX3_placeOf.i 8 = some (8, .invokevirtual 36, 3, 25, 2, 3) := rfl
theorem zh_X3_placeOf_11 : zfe zqX3_placeOf.i 11 = some (11, .ifCond .eq 18, 3, 0, 0, 0) := rfl
theorem zh_X3_placeOf_14 : zfe zqX3_placeOf.i 14 = some (14, .aload_n 0, 1, 0, 0, 0) := rfl
theorem zh_X3_placeOf_15 : zfe zqX3_placeOf.i 15 = some (15, .getfield 9, 3, 3, 0, 0) := rfl
theorem zh_X3_placeOf_18 : zfe zqX3_placeOf.i 18 = some (18, .iload_n 3, 1, 0, 0, 0) := rfl
theorem zh_X3_placeOf_19 : zfe zqX3_placeOf.i 19 = some (19, .laload, 1, 0, 0, 0) := rfl
theorem zh_X3_placeOf_20 : zfe zqX3_placeOf.i 20 = some (20, .lload_n 1, 1, 0, 0, 0) := rfl
theorem zh_X3_placeOf_21 : zfe zqX3_placeOf.i 21 = some (21, .lcmp, 1, 0, 0, 0) := rfl
theorem zh_X3_placeOf_22 : zfe zqX3_placeOf.i 22 = some (22, .ifCond .ne 7, 3, 0, 0, 0) := rfl
theorem zh_X3_placeOf_25 : zfe zqX3_placeOf.i 25 = some (25, .iload_n 3, 1, 0, 0, 0) := rfl
theorem zh_X3_placeOf_26 : zfe zqX3_placeOf.i 26 = some (26, .goto 4, 3, 0, 0, 0) := rfl
theorem zh_X3_placeOf_29 : zfe zqX3_placeOf.i 29 = some (29, .iconst (-1), 1, 0, 0, 0) := rfl
theorem zh_X3_placeOf_30 : zfe zqX3_placeOf.i 30 = some (30, .ireturn, 1, 0, 0, 0) := rfl
theorem ze_X3_placeOf_0 {d : Nat} {f : zF} {m : zM} {x0 : Nat} {x1 : Int64} {a2 a3 : Value} : zex zTb d zqX3_placeOf 0 [.ref x0, .long x1, a2, a3] [] f m = if zisc (f x0) 3 = true then zcal zTb (zrun zTb d 30 [.ref x0, .long x1] f m) d zqX3_placeOf 2 5 [.ref x0, .long x1, a2, a3] [] else none := (zxl_go (x := (1, [.ref x0, .long x1, a2, a3], [.ref x0], f, m)) zh_X3_placeOf_0 rfl).trans ((zxl_go (x := (2, [.ref x0, .long x1, a2, a3], [.long x1, .ref x0], f, m)) zh_X3_placeOf_1 rfl).trans ((zx_virtual4 zh_X3_placeOf_2 (Nat.le_of_ble_eq_true rfl) rfl rfl (Nat.le_of_ble_eq_true rfl))))
theorem ze_X3_placeOf_5 {d : Nat} {f : zF} {m : zM} {x0 : Nat} {a1 a2 a3 : Value} {y0 : Int32} : zex zTb d zqX3_placeOf 5 [.ref x0, a1, a2, a3] [.int y0] f m = if zisc (f x0) 3 = true then zcal zTb (zrun zTb d 25 [.ref x0, .int y0] f m) d zqX3_placeOf 8 11 [.ref x0, a1, (zclr a2), .int y0] [] else none := (zxl_go (x := (6, [.ref x0, a1, (zclr a2), .int y0], [], f, m)) zh_X3_placeOf_5 rfl).trans ((zxl_go (x := (7, [.ref x0, a1, (zclr a2), .int y0], [.ref x0], f, m)) zh_X3_placeOf_6 rfl).trans ((zxl_go (x := (8, [.ref x0, a1, (zclr a2), .int y0], [.int y0, .ref x0], f, m)) zh_X3_placeOf_7 rfl).trans ((zx_virtual4 zh_X3_placeOf_8 (Nat.le_of_ble_eq_true rfl) rfl rfl (Nat.le_of_ble_eq_true rfl)))))
theorem ze_X3_placeOf_11 {d : Nat} {f : zF} {m : zM} {a0 a1 a2 a3 : Value} {y0 : Int32} : zex zTb d zqX3_placeOf 11 [a0, a1, a2, a3] [.int y0] f m = if zc1 .eq y0 = true then zex zTb d zqX3_placeOf 29 [a0, a1, a2, a3] [] f m else zex zTb d zqX3_placeOf 14 [a0, a1, a2, a3] [] f m := (zx_if (tgt := 29) zh_X3_placeOf_11 rfl)
theorem ze_X3_placeOf_14 {d : Nat} {f : zF} {m : zM} {x0 : Nat} {a1 a2 a3 : Value} : zex zTb d zqX3_placeOf 14 [.ref x0, a1, a2, a3] [] f m = if zco (f x0) 3 0 = true then zex zTb d zqX3_placeOf 18 [.ref x0, a1, a2, a3] [zcf (f x0) 0] f m else none := (zxl_go (x := (15, [.ref x0, a1, a2, a3], [.ref x0], f, m)) zh_X3_placeOf_14 rfl).trans ((zx_getfield zh_X3_placeOf_15))
theorem ze_X3_placeOf_18 {d : Nat} {f : zF} {m : zM} {a0 a1 a2 : Value} {x3 : Int32} {y0 : Nat} : zex zTb d zqX3_placeOf 18 [a0, a1, a2, .int x3] [.ref y0] f m = if zrl (f y0) x3 = true then zex zTb d zqX3_placeOf 20 [a0, a1, a2, .int x3] [.long (zgl (f y0) x3.toNatClampNeg)] f m else none := (zxl_go (x := (19, [a0, a1, a2, .int x3], [.int x3, .ref y0], f, m)) zh_X3_placeOf_18 rfl).trans ((zx_laload zh_X3_placeOf_19))
theorem ze_X3_placeOf_20 {d : Nat} {f : zF} {m : zM} {a0 a2 a3 : Value} {x1 y0 : Int64} : zex zTb d zqX3_placeOf 20 [a0, .long x1, a2, a3] [.long y0] f m = if zc1 .ne (lg_cmp y0 x1) = true then zex zTb d zqX3_placeOf 29 [a0, .long x1, a2, a3] [] f m else zex zTb d zqX3_placeOf 25 [a0, .long x1, a2, a3] [] f m := (zxl_go (x := (21, [a0, .long x1, a2, a3], [.long x1, .long y0], f, m)) zh_X3_placeOf_20 rfl).trans ((zxl_go (x := (22, [a0, .long x1, a2, a3], [.int (lg_cmp y0 x1)], f, m)) zh_X3_placeOf_21 rfl).trans ((zx_if (tgt := 29) zh_X3_placeOf_22 rfl)))
theorem ze_X3_placeOf_25 {d : Nat} {f : zF} {m : zM} {a0 a1 a2 : Value} {x3 : Int32} : zex zTb d zqX3_placeOf 25 [a0, a1, a2, .int x3] [] f m = some (.inl (some (.int x3)), f, m) := (zxl_go (x := (26, [a0, a1, a2, .int x3], [.int x3], f, m)) zh_X3_placeOf_25 rfl).trans ((zx_goto zh_X3_placeOf_26 rfl).trans ((zx_iret zh_X3_placeOf_30 (by first | rfl | decide))))
theorem ze_X3_placeOf_29 {d : Nat} {f : zF} {m : zM} {a0 a1 a2 a3 : Value} : zex zTb d zqX3_placeOf 29 [a0, a1, a2, a3] [] f m = some (.inl (some (.int (I (-1)))), f, m) := (zx_iconst zh_X3_placeOf_29).trans ((zx_iret zh_X3_placeOf_30 (by first | rfl | decide)))
-- X3_tableOf
theorem zh_X3_tableOf_0 : zfe zqX3_tableOf.i 0 = some (0, .aload_n 0, 1, 0, 0, 0) := rfl
theorem zh_X3_tableOf_1 : zfe zqX3_tableOf.i 1 = some (1, .lload_n 1, 1, 0, 0, 0) := rfl
theorem zh_X3_tableOf_2 : zfe zqX3_tableOf.i 2 = some (2, .invokevirtual 40, 3, 31, 2, 3) := rfl
theorem zh_X3_tableOf_5 : zfe zqX3_tableOf.i 5 = some (5, .istore_n 3, 1, 0, 0, 0) := rfl
theorem zh_X3_tableOf_6 : zfe zqX3_tableOf.i 6 = some (6, .iload_n 3, 1, 0, 0, 0) := rfl
theorem zh_X3_tableOf_7 : zfe zqX3_tableOf.i 7 = some (7, .ifCond .lt 9, 3, 0, 0, 0) := rfl
theorem zh_X3_tableOf_10 : zfe zqX3_tableOf.i 10 = some (10, .lconst 1, 1, 0, 0, 0) := rfl
theorem zh_X3_tableOf_11 : zfe zqX3_tableOf.i 11 = some (11, .iload_n 3, 1, 0, 0, 0) := rfl
theorem zh_X3_tableOf_12 : zfe zqX3_tableOf.i 12 = some (12, .lshl, 1, 0, 0, 0) := rfl
theorem zh_X3_tableOf_13 : zfe zqX3_tableOf.i 13 = some (13, .goto 4, 3, 0, 0, 0) := rfl
theorem zh_X3_tableOf_16 : zfe zqX3_tableOf.i 16 = some (16, .lconst 0, 1, 0, 0, 0) := rfl
theorem zh_X3_tableOf_17 : zfe zqX3_tableOf.i 17 = some (17, .lreturn, 1, 0, 0, 0) := rfl
theorem ze_X3_tableOf_0 {d : Nat} {f : zF} {m : zM} {x0 : Nat} {x1 : Int64} {a2 a3 : Value} : zex zTb d zqX3_tableOf 0 [.ref x0, .long x1, a2, a3] [] f m = if zisc (f x0) 3 = true then zcal zTb (zrun zTb d 31 [.ref x0, .long x1] f m) d zqX3_tableOf 2 5 [.ref x0, .long x1, a2, a3] [] else none := (zxl_go (x := (1, [.ref x0, .long x1, a2, a3], [.ref x0], f, m)) zh_X3_tableOf_0 rfl).trans ((zxl_go (x := (2, [.ref x0, .long x1, a2, a3], [.long x1, .ref x0], f, m)) zh_X3_tableOf_1 rfl).trans ((zx_virtual4 zh_X3_tableOf_2 (Nat.le_of_ble_eq_true rfl) rfl rfl (Nat.le_of_ble_eq_true rfl))))
theorem ze_X3_tableOf_5 {d : Nat} {f : zF} {m : zM} {a0 a1 a2 a3 : Value} {y0 : Int32} : zex zTb d zqX3_tableOf 5 [a0, a1, a2, a3] [.int y0] f m = if zc1 .lt y0 = true then zex zTb d zqX3_tableOf 16 [a0, a1, (zclr a2), .int y0] [] f m else zex zTb d zqX3_tableOf 10 [a0, a1, (zclr a2), .int y0] [] f m := (zxl_go (x := (6, [a0, a1, (zclr a2), .int y0], [], f, m)) zh_X3_tableOf_5 rfl).trans ((zxl_go (x := (7, [a0, a1, (zclr a2), .int y0], [.int y0], f, m)) zh_X3_tableOf_6 rfl).trans ((zx_if (tgt := 16) zh_X3_tableOf_7 rfl)))
theorem ze_X3_tableOf_10 {d : Nat} {f : zF} {m : zM} {a0 a1 a2 : Value} {x3 : Int32} : zex zTb d zqX3_tableOf 10 [a0, a1, a2, .int x3] [] f m = some (.inl (some (.long ((J 1) <<< (x3.toInt64 &&& 63)))), f, m) := (zx_lconst (v := 1) zh_X3_tableOf_10 (by decide)).trans ((zxl_go (x := (12, [a0, a1, a2, .int x3], [.int x3, .long (J 1)], f, m)) zh_X3_tableOf_11 rfl).trans ((zxl_go (x := (13, [a0, a1, a2, .int x3], [.long ((J 1) <<< (x3.toInt64 &&& 63))], f, m)) zh_X3_tableOf_12 rfl).trans ((zx_goto zh_X3_tableOf_13 rfl).trans ((zx_lret zh_X3_tableOf_17 rfl)))))
theorem ze_X3_tableOf_16 {d : Nat} {f : zF} {m : zM} {a0 a1 a2 a3 : Value} : zex zTb d zqX3_tableOf 16 [a0, a1, a2, a3] [] f m = some (.inl (some (.long (J 0))), f, m) := (zx_lconst (v := 0) zh_X3_tableOf_16 (by decide)).trans ((zx_lret zh_X3_tableOf_17 rfl))
-- X4_init
theorem zh_X4_init_0 : zfe zqX4_init.i 0 = some (0, .aload_n 0, 1, 0, 0, 0) := rfl
theorem zh_X4_init_1 : zfe zqX4_init.i 1 = some (1, .invokespecial 3, 3, 0, 0, 0) := rfl
theorem zh_X4_init_4 : zfe zqX4_init.i 4 = some (4, .aload_n 0, 1, 0, 0, 0) := rfl
theorem zh_X4_init_5 : zfe zqX4_init.i 5 = some (5, .sipush 180, 3, 0, 0, 0) := rfl
theorem zh_X4_init_8 : zfe zqX4_init.i 8 = some (8, .newarray .int, 2, 0, 0, 0) := rfl
theorem zh_X4_init_10 : zfe zqX4_init.i 10 = some (10, .putfield 11, 3, 4, 0, 1) := rfl
theorem zh_X4_init_13 : zfe zqX4_init.i 13 = some (13, .aload_n 0, 1, 0, 0, 0) := rfl
theorem zh_X4_init_14 : zfe zqX4_init.i 14 = some (14, .sipush 240, 3, 0, 0, 0) := rfl
theorem zh_X4_init_17 : zfe zqX4_init.i 17 = some (17, .newarray .int, 2, 0, 0, 0) := rfl
theorem zh_X4_init_19 : zfe zqX4_init.i 19 = some (19, .putfield 15, 3, 4, 2, 1) := rfl
theorem zh_X4_init_22 : zfe zqX4_init.i 22 = some (22, .return_, 1, 0, 0, 0) := rfl
theorem ze_X4_init_0 {d : Nat} {f : zF} {nx kk n : Nat} {x0 : Nat} : zex zTb d zqX4_init 0 [.ref x0] [] f (some nx, kk, n) = zex zTb d zqX4_init 10 [.ref x0] [.ref nx, .ref x0] (zup f nx (.inl (0, (180, .inl (fun _ => 0))))) (some (nx + 1), kk + 1, n + 180) := (zxl_go (x := (1, [.ref x0], [.ref x0], f, (some nx, kk, n))) zh_X4_init_0 rfl).trans ((zx_objinit zh_X4_init_1 (Nat.le_of_ble_eq_true rfl)).trans ((zxl_go (x := (5, [.ref x0], [.ref x0], f, (some nx, kk, n))) zh_X4_init_4 rfl).trans ((zx_sipush zh_X4_init_5 (by decide)).trans ((zx_newarr (N := 180) zh_X4_init_8 rfl (by decide) (by decide))))))
theorem ze_X4_init_10 {d : Nat} {f : zF} {m : zM} {a0 : Value} {y0 y1 : Nat} : zex zTb d zqX4_init 10 [a0] [.ref y1, .ref y0] f m = if (zco (f y0) 4 0 && zok (zfty 4 0) (.ref y1)) = true then zex zTb d zqX4_init 13 [a0] [] (zup f y0 (zcs (f y0) 0 (.ref y1))) m else none := (zx_putfield zh_X4_init_10)
theorem ze_X4_init_13 {d : Nat} {f : zF} {nx kk n : Nat} {x0 : Nat} : zex zTb d zqX4_init 13 [.ref x0] [] f (some nx, kk, n) = zex zTb d zqX4_init 19 [.ref x0] [.ref nx, .ref x0] (zup f nx (.inl (0, (240, .inl (fun _ => 0))))) (some (nx + 1), kk + 1, n + 240) := (zxl_go (x := (14, [.ref x0], [.ref x0], f, (some nx, kk, n))) zh_X4_init_13 rfl).trans ((zx_sipush zh_X4_init_14 (by decide)).trans ((zx_newarr (N := 240) zh_X4_init_17 rfl (by decide) (by decide))))
theorem ze_X4_init_19 {d : Nat} {f : zF} {m : zM} {a0 : Value} {y0 y1 : Nat} : zex zTb d zqX4_init 19 [a0] [.ref y1, .ref y0] f m = if (zco (f y0) 4 2 && zok (zfty 4 2) (.ref y1)) = true then zex zTb d zqX4_init 22 [a0] [] (zup f y0 (zcs (f y0) 2 (.ref y1))) m else none := (zx_putfield zh_X4_init_19)
theorem ze_X4_init_22 {d : Nat} {f : zF} {m : zM} {a0 : Value} : zex zTb d zqX4_init 22 [a0] [] f m = some (.inl none, f, m) := (zx_ret zh_X4_init_22 rfl)
-- X4_has
theorem zh_X4_has_0 : zfe zqX4_has.i 0 = some (0, .iload_n 1, 1, 0, 0, 0) := rfl
theorem zh_X4_has_1 : zfe zqX4_has.i 1 = some (1, .ifCond .lt 24, 3, 0, 0, 0) := rfl
theorem zh_X4_has_4 : zfe zqX4_has.i 4 = some (4, .iload_n 1, 1, 0, 0, 0) := rfl
theorem zh_X4_has_5 : zfe zqX4_has.i 5 = some (5, .aload_n 0, 1, 0, 0, 0) := rfl
theorem zh_X4_has_6 : zfe zqX4_has.i 6 = some (6, .getfield 18, 3, 4, 1, 0) := rfl
theorem zh_X4_has_9 : zfe zqX4_has.i 9 = some (9, .if_icmp .ge 16, 3, 0, 0, 0) := rfl
theorem zh_X4_has_12 : zfe zqX4_has.i 12 = some (12, .iload_n 1, 1, 0, 0, 0) := rfl
theorem zh_X4_has_13 : zfe zqX4_has.i 13 = some (13, .aload_n 0, 1, 0, 0, 0) := rfl
theorem zh_X4_has_14 : zfe zqX4_has.i 14 = some (14, .getfield 11, 3, 4, 0, 0) := rfl
theorem zh_X4_has_17 : zfe zqX4_has.i 17 = some (17, .arraylength, 1, 0, 0, 0) := rfl
theorem zh_X4_has_18 : zfe zqX4_has.i 18 = some (18, .if_icmp .ge 7, 3, 0, 0, 0) := rfl
theorem zh_X4_has_21 : zfe zqX4_has.i 21 = some (21, .iconst 1, 1, 0, 0, 0) := rfl
theorem zh_X4_has_22 : zfe zqX4_has.i 22 = some (22, .goto 4, 3, 0, 0, 0) := rfl
theorem zh_X4_has_25 : zfe zqX4_has.i 25 = some (25, .iconst 0, 1, 0, 0, 0) := rfl
theorem zh_X4_has_26 : zfe zqX4_has.i 26 = some (26, .ireturn, 1, 0, 0, 0) := rfl
theorem ze_X4_has_0 {d : Nat} {f : zF} {m : zM} {a0 : Value} {x1 : Int32} : zex zTb d zqX4_has 0 [a0, .int x1] [] f m = if zc1 .lt x1 = true then zex zTb d zqX4_has 25 [a0, .int x1] [] f m else zex zTb d zqX4_has 4 [a0, .int x1] [] f m := (zxl_go (x := (1, [a0, .int x1], [.int x1], f, m)) zh_X4_has_0 rfl).trans ((zx_if (tgt := 25) zh_X4_has_1 rfl))
theorem ze_X4_has_4 {d : Nat} {f : zF} {m : zM} {x0 : Nat} {x1 : Int32} : zex zTb d zqX4_has 4 [.ref x0, .int x1] [] f m = if zco (f x0) 4 1 = true then zex zTb d zqX4_has 9 [.ref x0, .int x1] [zcf (f x0) 1, .int x1] f m else none := (zxl_go (x := (5, [.ref x0, .int x1], [.int x1], f, m)) zh_X4_has_4 rfl).trans ((zxl_go (x := (6, [.ref x0, .int x1], [.ref x0, .int x1], f, m)) zh_X4_has_5 rfl).trans ((zx_getfield zh_X4_has_6)))
theorem ze_X4_has_9 {d : Nat} {f : zF} {m : zM} {a0 a1 : Value} {y0 y1 : Int32} : zex zTb d zqX4_has 9 [a0, a1] [.int y1, .int y0] f m = if zc2 .ge y0 y1 = true then zex zTb d zqX4_has 25 [a0, a1] [] f m else zex zTb d zqX4_has 12 [a0, a1] [] f m := (zx_icmp (tgt := 25) zh_X4_has_9 rfl)
theorem ze_X4_has_12 {d : Nat} {f : zF} {m : zM} {x0 : Nat} {x1 : Int32} : zex zTb d zqX4_has 12 [.ref x0, .int x1] [] f m = if zco (f x0) 4 0 = true then zex zTb d zqX4_has 17 [.ref x0, .int x1] [zcf (f x0) 0, .int x1] f m else none := (zxl_go (x := (13, [.ref x0, .int x1], [.int x1], f, m)) zh_X4_has_12 rfl).trans ((zxl_go (x := (14, [.ref x0, .int x1], [.ref x0, .int x1], f, m)) zh_X4_has_13 rfl).trans ((zx_getfield zh_X4_has_14)))
theorem ze_X4_has_17 {d : Nat} {f : zF} {m : zM} {a0 a1 : Value} {y0 : Int32} {y1 : Nat} : zex zTb d zqX4_has 17 [a0, a1] [.ref y1, .int y0] f m = if zisa (f y1) = true then zex zTb d zqX4_has 18 [a0, a1] [.int (Int32.ofNat (zln (f y1))), .int y0] f m else none := (zx_alen zh_X4_has_17)
theorem ze_X4_has_18 {d : Nat} {f : zF} {m : zM} {a0 a1 : Value} {y0 y1 : Int32} : zex zTb d zqX4_has 18 [a0, a1] [.int y1, .int y0] f m = if zc2 .ge y0 y1 = true then zex zTb d zqX4_has 25 [a0, a1] [] f m else zex zTb d zqX4_has 21 [a0, a1] [] f m := (zx_icmp (tgt := 25) zh_X4_has_18 rfl)
theorem ze_X4_has_21 {d : Nat} {f : zF} {m : zM} {a0 a1 : Value} : zex zTb d zqX4_has 21 [a0, a1] [] f m = some (.inl (some (.int (I 1))), f, m) := (zx_iconst zh_X4_has_21).trans ((zx_goto zh_X4_has_22 rfl).trans ((zx_iret zh_X4_has_26 (by first | rfl | decide))))
theorem ze_X4_has_25 {d : Nat} {f : zF} {m : zM} {a0 a1 : Value} : zex zTb d zqX4_has 25 [a0, a1] [] f m = some (.inl (some (.int (I 0))), f, m) := (zx_iconst zh_X4_has_25).trans ((zx_iret zh_X4_has_26 (by first | rfl | decide)))
-- X4_write
theorem zh_X4_write_0 : zfe zqX4_write.i 0 = some (0, .aload_n 0, 1, 0, 0, 0) := rfl
theorem zh_X4_write_1 : zfe zqX4_write.i 1 = some (1, .iconst 0, 1, 0, 0, 0) := rfl
theorem zh_X4_write_2 : zfe zqX4_write.i 2 = some (2, .putfield 18, 3, 4, 1, 0) := rfl
theorem zh_X4_write_5 : zfe zqX4_write.i 5 = some (5, .aload_n 0, 1, 0, 0, 0) := rfl
theorem zh_X4_write_6 : zfe zqX4_write.i 6 = some (6, .iconst 0, 1, 0, 0, 0) := rfl
theorem zh_X4_write_7 : zfe zqX4_write.i 7 = some (7, .putfield 22, 3, 4, 3, 0) := rfl
theorem zh_X4_write_10 : zfe zqX4_write.i 10 = some (10, .aload_n 0, 1, 0, 0, 0) := rfl
theorem zh_X4_write_11 : zfe zqX4_write.i 11 = some (11, .iconst 0, 1, 0, 0, 0) := rfl
theorem zh_X4_write_12 : zfe zqX4_write.i 12 = some (12, .invokevirtual 25, 3, 40, 2, 4) := rfl
theorem zh_X4_write_15 : zfe zqX4_write.i 15 = some (15, .iconst 0, 1, 0, 0, 0) := rfl
theorem zh_X4_write_16 : zfe zqX4_write.i 16 = some (16, .istore_n 2, 1, 0, 0, 0) := rfl
theorem zh_X4_write_17 : zfe zqX4_write.i 17 = some (17, .iload_n 2, 1, 0, 0, 0) := rfl
theorem zh_X4_write_18 : zfe zqX4_write.i 18 = some (18, .sipush 240, 3, 0, 0, 0) := rfl
theorem zh_X4_write_21 : zfe zqX4_write.i 21 = some (21, .if_icmp .ge 55, 3, 0, 0, 0) := rfl
theorem zh_X4_write_24 : zfe zqX4_write.i 24 = some (24, .aload_n 0, 1, 0, 0, 0) := rfl
theorem zh_X4_write_25 : zfe zqX4_write.i 25 = some (25, .getfield 22, 3, 4, 3, 0) := rfl
theorem zh_X4_write_28 : zfe zqX4_write.i 28 = some (28, .ifCond .le 48, 3, 0, 0, 0) := rfl
theorem zh_X4_write_31 : zfe zqX4_write.i 31 = some (31, .aload_n 0, 1, 0, 0, 0) := rfl
theorem zh_X4_write_32 : zfe zqX4_write.i 32 = some (32, .dup, 1, 0, 0, 0) := rfl
theorem zh_X4_write_33 : zfe zqX4_write.i 33 = some (33, .getfield 22, 3, 4, 3, 0) := rfl
theorem zh_X4_write_36 : zfe zqX4_write.i 36 = some (36, .iconst 1, 1, 0, 0, 0) := rfl
theorem zh_X4_write_37 : zfe zqX4_write.i 37 = some (37, .isub, 1, 0, 0, 0) := rfl
theorem zh_X4_write_38 : zfe zqX4_write.i 38 = some (38, .putfield 22, 3, 4, 3, 0) := rfl
theorem zh_X4_write_41 : zfe zqX4_write.i 41 = some (41, .aload_n 0, 1, 0, 0, 0) := rfl
theorem zh_X4_write_42 : zfe zqX4_write.i 42 = some (42, .getfield 15, 3, 4, 2, 0) := rfl
theorem zh_X4_write_45 : zfe zqX4_write.i 45 = some (45, .aload_n 0, 1, 0, 0, 0) := rfl
theorem zh_X4_write_46 : zfe zqX4_write.i 46 = some (46, .getfield 22, 3, 4, 3, 0) := rfl
theorem zh_X4_write_49 : zfe zqX4_write.i 49 = some (49, .iaload, 1, 0, 0, 0) := rfl
theorem zh_X4_write_50 : zfe zqX4_write.i 50 = some (50, .istore_n 3, 1, 0, 0, 0) := rfl
theorem zh_X4_write_51 : zfe zqX4_write.i 51 = some (51, .iload_n 3, 1, 0, 0, 0) := rfl
theorem zh_X4_write_52 : zfe zqX4_write.i 52 = some (52, .ifCond .ge 12, 3, 0, 0, 0) := rfl
theorem zh_X4_write_55 : zfe zqX4_write.i 55 = some (55, .aload_n 0, 1, 0, 0, 0) := rfl
theorem zh_X4_write_56 : zfe zqX4_write.i 56 = some (56, .iload_n 3, 1, 0, 0, 0) := rfl
theorem zh_X4_write_57 : zfe zqX4_write.i 57 = some (57, .ineg, 1, 0, 0, 0) := rfl
theorem zh_X4_write_58 : zfe zqX4_write.i 58 = some (58, .invokevirtual 29, 3, 41, 2, 4) := rfl
theorem zh_X4_write_61 : zfe zqX4_write.i 61 = some (61, .goto 9, 3, 0, 0, 0) := rfl
theorem zh_X4_write_64 : zfe zqX4_write.i 64 = some (64, .aload_n 0, 1, 0, 0, 0) := rfl
theorem zh_X4_write_65 : zfe zqX4_write.i 65 = some (65, .aload_n 1, 1, 0, 0, 0) := rfl
theorem zh_X4_write_66 : zfe zqX4_write.i 66 = some (66, .iload_n 3, 1, 0, 0, 0) := rfl
theorem zh_X4_write_67 : zfe zqX4_write.i 67 = some (67, .invokevirtual 32, 3, 36, 3, 4) := rfl
theorem zh_X4_write_70 : zfe zqX4_write.i 70 = some (70, .iinc 2 1, 3, 0, 0, 0) := rfl
theorem zh_X4_write_73 : zfe zqX4_write.i 73 = some (73, .goto (-56), 3, 0, 0, 0) := rfl
theorem zh_X4_write_76 : zfe zqX4_write.i 76 = some (76, .return_, 1, 0, 0, 0) := rfl
theorem ze_X4_write_0 {d : Nat} {f : zF} {m : zM} {x0 : Nat} {a1 a2 a3 : Value} : zex zTb d zqX4_write 0 [.ref x0, a1, a2, a3] [] f m = if (zco (f x0) 4 1 && zok (zfty 4 1) (.int (I 0))) = true then zex zTb d zqX4_write 5 [.ref x0, a1, a2, a3] [] (zup f x0 (zcs (f x0) 1 (.int (I 0)))) m else none := (zxl_go (x := (1, [.ref x0, a1, a2, a3], [.ref x0], f, m)) zh_X4_write_0 rfl).trans ((zx_iconst zh_X4_write_1).trans ((zx_putfield zh_X4_write_2)))
theorem ze_X4_write_5 {d : Nat} {f : zF} {m : zM} {x0 : Nat} {a1 a2 a3 : Value} : zex zTb d zqX4_write 5 [.ref x0, a1, a2, a3] [] f m = if (zco (f x0) 4 3 && zok (zfty 4 3) (.int (I 0))) = true then zex zTb d zqX4_write 10 [.ref x0, a1, a2, a3] [] (zup f x0 (zcs (f x0) 3 (.int (I 0)))) m else none := (zxl_go (x := (6, [.ref x0, a1, a2, a3], [.ref x0], f, m)) zh_X4_write_5 rfl).trans ((zx_iconst zh_X4_write_6).trans ((zx_putfield zh_X4_write_7)))
theorem ze_X4_write_10 {d : Nat} {f : zF} {m : zM} {x0 : Nat} {a1 a2 a3 : Value} : zex zTb d zqX4_write 10 [.ref x0, a1, a2, a3] [] f m = if zisc (f x0) 4 = true then zcal zTb (zrun zTb d 40 [.ref x0, .int (I 0)] f m) d zqX4_write 12 15 [.ref x0, a1, a2, a3] [] else none := (zxl_go (x := (11, [.ref x0, a1, a2, a3], [.ref x0], f, m)) zh_X4_write_10 rfl).trans ((zx_iconst zh_X4_write_11).trans ((zx_virtual4 zh_X4_write_12 (Nat.le_of_ble_eq_true rfl) rfl rfl (Nat.le_of_ble_eq_true rfl))))
theorem ze_X4_write_15 {d : Nat} {f : zF} {m : zM} {a0 a1 a2 a3 : Value} : zex zTb d zqX4_write 15 [a0, a1, a2, a3] [] f m = zex zTb d zqX4_write 17 [a0, (zclr a1), .int (I 0), a3] [] f m := (zx_iconst zh_X4_write_15).trans ((zxl_go (x := (17, [a0, (zclr a1), .int (I 0), a3], [], f, m)) zh_X4_write_16 rfl))
theorem ze_X4_write_17 {d : Nat} {f : zF} {m : zM} {a0 a1 a3 : Value} {x2 : Int32} : zex zTb d zqX4_write 17 [a0, a1, .int x2, a3] [] f m = if zc2 .ge x2 (I 240) = true then zex zTb d zqX4_write 76 [a0, a1, .int x2, a3] [] f m else zex zTb d zqX4_write 24 [a0, a1, .int x2, a3] [] f m := (zxl_go (x := (18, [a0, a1, .int x2, a3], [.int x2], f, m)) zh_X4_write_17 rfl).trans ((zx_sipush zh_X4_write_18 (by decide)).trans ((zx_icmp (tgt := 76) zh_X4_write_21 rfl)))
theorem ze_X4_write_24 {d : Nat} {f : zF} {m : zM} {x0 : Nat} {a1 a2 a3 : Value} : zex zTb d zqX4_write 24 [.ref x0, a1, a2, a3] [] f m = if zco (f x0) 4 3 = true then zex zTb d zqX4_write 28 [.ref x0, a1, a2, a3] [zcf (f x0) 3] f m else none := (zxl_go (x := (25, [.ref x0, a1, a2, a3], [.ref x0], f, m)) zh_X4_write_24 rfl).trans ((zx_getfield zh_X4_write_25))
theorem ze_X4_write_28 {d : Nat} {f : zF} {m : zM} {a0 a1 a2 a3 : Value} {y0 : Int32} : zex zTb d zqX4_write 28 [a0, a1, a2, a3] [.int y0] f m = if zc1 .le y0 = true then zex zTb d zqX4_write 76 [a0, a1, a2, a3] [] f m else zex zTb d zqX4_write 31 [a0, a1, a2, a3] [] f m := (zx_if (tgt := 76) zh_X4_write_28 rfl)
theorem ze_X4_write_31 {d : Nat} {f : zF} {m : zM} {x0 : Nat} {a1 a2 a3 : Value} : zex zTb d zqX4_write 31 [.ref x0, a1, a2, a3] [] f m = if zco (f x0) 4 3 = true then zex zTb d zqX4_write 36 [.ref x0, a1, a2, a3] [zcf (f x0) 3, .ref x0] f m else none := (zxl_go (x := (32, [.ref x0, a1, a2, a3], [.ref x0], f, m)) zh_X4_write_31 rfl).trans ((zxl_go (x := (33, [.ref x0, a1, a2, a3], [.ref x0, .ref x0], f, m)) zh_X4_write_32 rfl).trans ((zx_getfield zh_X4_write_33)))
theorem ze_X4_write_36 {d : Nat} {f : zF} {m : zM} {a0 a1 a2 a3 : Value} {y0 : Nat} {y1 : Int32} : zex zTb d zqX4_write 36 [a0, a1, a2, a3] [.int y1, .ref y0] f m = if (zco (f y0) 4 3 && zok (zfty 4 3) (.int (y1 - (I 1)))) = true then zex zTb d zqX4_write 41 [a0, a1, a2, a3] [] (zup f y0 (zcs (f y0) 3 (.int (y1 - (I 1))))) m else none := (zx_iconst zh_X4_write_36).trans ((zxl_go (x := (38, [a0, a1, a2, a3], [.int (y1 - (I 1)), .ref y0], f, m)) zh_X4_write_37 rfl).trans ((zx_putfield zh_X4_write_38)))
theorem ze_X4_write_41 {d : Nat} {f : zF} {m : zM} {x0 : Nat} {a1 a2 a3 : Value} : zex zTb d zqX4_write 41 [.ref x0, a1, a2, a3] [] f m = if zco (f x0) 4 2 = true then zex zTb d zqX4_write 45 [.ref x0, a1, a2, a3] [zcf (f x0) 2] f m else none := (zxl_go (x := (42, [.ref x0, a1, a2, a3], [.ref x0], f, m)) zh_X4_write_41 rfl).trans ((zx_getfield zh_X4_write_42))
theorem ze_X4_write_45 {d : Nat} {f : zF} {m : zM} {x0 y0 : Nat} {a1 a2 a3 : Value} : zex zTb d zqX4_write 45 [.ref x0, a1, a2, a3] [.ref y0] f m = if zco (f x0) 4 3 = true then zex zTb d zqX4_write 49 [.ref x0, a1, a2, a3] [zcf (f x0) 3, .ref y0] f m else none := (zxl_go (x := (46, [.ref x0, a1, a2, a3], [.ref x0, .ref y0], f, m)) zh_X4_write_45 rfl).trans ((zx_getfield zh_X4_write_46))
theorem ze_X4_write_49 {d : Nat} {f : zF} {m : zM} {a0 a1 a2 a3 : Value} {y0 : Nat} {y1 : Int32} : zex zTb d zqX4_write 49 [a0, a1, a2, a3] [.int y1, .ref y0] f m = if zr8 (f y0) y1 = true then zex zTb d zqX4_write 50 [a0, a1, a2, a3] [.int (zgi (f y0) y1.toNatClampNeg)] f m else none := (zx_iaload zh_X4_write_49)
theorem ze_X4_write_50 {d : Nat} {f : zF} {m : zM} {a0 a1 a2 a3 : Value} {y0 : Int32} : zex zTb d zqX4_write 50 [a0, a1, a2, a3] [.int y0] f m = if zc1 .ge y0 = true then zex zTb d zqX4_write 64 [a0, a1, (zclr a2), .int y0] [] f m else zex zTb d zqX4_write 55 [a0, a1, (zclr a2), .int y0] [] f m := (zxl_go (x := (51, [a0, a1, (zclr a2), .int y0], [], f, m)) zh_X4_write_50 rfl).trans ((zxl_go (x := (52, [a0, a1, (zclr a2), .int y0], [.int y0], f, m)) zh_X4_write_51 rfl).trans ((zx_if (tgt := 64) zh_X4_write_52 rfl)))
theorem ze_X4_write_55 {d : Nat} {f : zF} {m : zM} {x0 : Nat} {a1 a2 : Value} {x3 : Int32} : zex zTb d zqX4_write 55 [.ref x0, a1, a2, .int x3] [] f m = if zisc (f x0) 4 = true then zcal zTb (zrun zTb d 41 [.ref x0, .int (-x3)] f m) d zqX4_write 58 61 [.ref x0, a1, a2, .int x3] [] else none := (zxl_go (x := (56, [.ref x0, a1, a2, .int x3], [.ref x0], f, m)) zh_X4_write_55 rfl).trans ((zxl_go (x := (57, [.ref x0, a1, a2, .int x3], [.int x3, .ref x0], f, m)) zh_X4_write_56 rfl).trans ((zxl_go (x := (58, [.ref x0, a1, a2, .int x3], [.int (-x3), .ref x0], f, m)) zh_X4_write_57 rfl).trans ((zx_virtual4 zh_X4_write_58 (Nat.le_of_ble_eq_true rfl) rfl rfl (Nat.le_of_ble_eq_true rfl)))))
theorem ze_X4_write_61 {d : Nat} {f : zF} {m : zM} {a0 a1 a3 : Value} {x2 : Int32} : zex zTb d zqX4_write 61 [a0, a1, .int x2, a3] [] f m = zex zTb d zqX4_write 17 [a0, (zclr a1), .int (x2 + I 1), a3] [] f m := (zx_goto zh_X4_write_61 rfl).trans ((zxl_go (x := (73, [a0, (zclr a1), .int (x2 + I 1), a3], [], f, m)) zh_X4_write_70 rfl).trans ((zx_goto zh_X4_write_73 rfl)))
theorem ze_X4_write_64 {d : Nat} {f : zF} {m : zM} {x0 x1 : Nat} {a2 : Value} {x3 : Int32} : zex zTb d zqX4_write 64 [.ref x0, .ref x1, a2, .int x3] [] f m = if zisc (f x0) 4 = true then zcal zTb (zrun zTb d 36 [.ref x0, .ref x1, .int x3] f m) d zqX4_write 67 70 [.ref x0, .ref x1, a2, .int x3] [] else none := (zxl_go (x := (65, [.ref x0, .ref x1, a2, .int x3], [.ref x0], f, m)) zh_X4_write_64 rfl).trans ((zxl_go (x := (66, [.ref x0, .ref x1, a2, .int x3], [.ref x1, .ref x0], f, m)) zh_X4_write_65 rfl).trans ((zxl_go (x := (67, [.ref x0, .ref x1, a2, .int x3], [.int x3, .ref x1, .ref x0], f, m)) zh_X4_write_66 rfl).trans ((zx_virtual4 zh_X4_write_67 (Nat.le_of_ble_eq_true rfl) rfl rfl (Nat.le_of_ble_eq_true rfl)))))
theorem ze_X4_write_70 {d : Nat} {f : zF} {m : zM} {a0 a1 a3 : Value} {x2 : Int32} : zex zTb d zqX4_write 70 [a0, a1, .int x2, a3] [] f m = zex zTb d zqX4_write 17 [a0, (zclr a1), .int (x2 + I 1), a3] [] f m := (zxl_go (x := (73, [a0, (zclr a1), .int (x2 + I 1), a3], [], f, m)) zh_X4_write_70 rfl).trans ((zx_goto zh_X4_write_73 rfl))
theorem ze_X4_write_76 {d : Nat} {f : zF} {m : zM} {a0 a1 a2 a3 : Value} : zex zTb d zqX4_write 76 [a0, a1, a2, a3] [] f m = some (.inl none, f, m) := (zx_ret zh_X4_write_76 rfl)
-- X4_putNode
theorem zh_X4_putNode_0 : zfe zqX4_putNode.i 0 = some (0, .aload_n 1, 1, 0, 0, 0) := rfl
theorem zh_X4_putNode_1 : zfe zqX4_putNode.i 1 = some (1, .iload_n 2, 1, 0, 0, 0) := rfl
theorem zh_X4_putNode_2 : zfe zqX4_putNode.i 2 = some (2, .invokevirtual 36, 3, 12, 2, 2) := rfl
theorem zh_X4_putNode_5 : zfe zqX4_putNode.i 5 = some (5, .tableswitch 114 0 5 #[39, 48, 57, 69, 84, 99], 39, 0, 0, 0) := rfl
theorem zh_X4_putNode_44 : zfe zqX4_putNode.i 44 = some (44, .aload_n 0, 1, 0, 0, 0) := rfl
theorem zh_X4_putNode_45 : zfe zqX4_putNode.i 45 = some (45, .bipush 48, 2, 0, 0, 0) := rfl
theorem zh_X4_putNode_47 : zfe zqX4_putNode.i 47 = some (47, .invokevirtual 29, 3, 41, 2, 4) := rfl
theorem zh_X4_putNode_50 : zfe zqX4_putNode.i 50 = some (50, .goto 87, 3, 0, 0, 0) := rfl
theorem zh_X4_putNode_53 : zfe zqX4_putNode.i 53 = some (53, .aload_n 0, 1, 0, 0, 0) := rfl
theorem zh_X4_putNode_54 : zfe zqX4_putNode.i 54 = some (54, .bipush 49, 2, 0, 0, 0) := rfl
theorem zh_X4_putNode_56 : zfe zqX4_putNode.i 56 = some (56, .invokevirtual 29, 3, 41, 2, 4) := rfl
theorem zh_X4_putNode_59 : zfe zqX4_putNode.i 59 = some (59, .goto 78, 3, 0, 0, 0) := rfl
theorem zh_X4_putNode_62 : zfe zqX4_putNode.i 62 = some (62, .aload_n 0, 1, 0, 0, 0) := rfl
theorem zh_X4_putNode_63 : zfe zqX4_putNode.i 63 = some (63, .aload_n 1, 1, 0, 0, 0) := rfl
theorem zh_X4_putNode_64 : zfe zqX4_putNode.i 64 = some (64, .iload_n 2, 1, 0, 0, 0) := rfl
theorem zh_X4_putNode_65 : zfe zqX4_putNode.i 65 = some (65, .invokevirtual 42, 3, 13, 2, 2) := rfl
theorem zh_X4_putNode_68 : zfe zqX4_putNode.i 68 = some (68, .invokevirtual 29, 3, 41, 2, 4) := rfl
theorem zh_X4_putNode_71 : zfe zqX4_putNode.i 71 = some (71, .goto 66, 3, 0, 0, 0) := rfl
theorem zh_X4_putNode_74 : zfe zqX4_putNode.i 74 = some (74, .aload_n 0, 1, 0, 0, 0) := rfl
theorem zh_X4_putNode_75 : zfe zqX4_putNode.i 75 = some (75, .bipush (-63), 2, 0, 0, 0) := rfl
theorem zh_X4_putNode_77 : zfe zqX4_putNode.i 77 = some (77, .invokevirtual 25, 3, 40, 2, 4) := rfl
theorem zh_X4_putNode_80 : zfe zqX4_putNode.i 80 = some (80, .aload_n 0, 1, 0, 0, 0) := rfl
theorem zh_X4_putNode_81 : zfe zqX4_putNode.i 81 = some (81, .aload_n 1, 1, 0, 0, 0) := rfl
theorem zh_X4_putNode_82 : zfe zqX4_putNode.i 82 = some (82, .iload_n 2, 1, 0, 0, 0) := rfl
theorem zh_X4_putNode_83 : zfe zqX4_putNode.i 83 = some (83, .invokevirtual 45, 3, 37, 3, 4) := rfl
theorem zh_X4_putNode_86 : zfe zqX4_putNode.i 86 = some (86, .goto 51, 3, 0, 0, 0) := rfl
theorem zh_X4_putNode_89 : zfe zqX4_putNode.i 89 = some (89, .aload_n 0, 1, 0, 0, 0) := rfl
theorem zh_X4_putNode_90 : zfe zqX4_putNode.i 90 = some (90, .bipush (-42), 2, 0, 0, 0) := rfl
theorem zh_X4_putNode_92 : zfe zqX4_putNode.i 92 = some (92, .invokevirtual 25, 3, 40, 2, 4) := rfl
theorem zh_X4_putNode_95 : zfe zqX4_putNode.i 95 = some (95, .aload_n 0, 1, 0, 0, 0) := rfl
theorem zh_X4_putNode_96 : zfe zqX4_putNode.i 96 = some (96, .aload_n 1, 1, 0, 0, 0) := rfl
theorem zh_X4_putNode_97 : zfe zqX4_putNode.i 97 = some (97, .iload_n 2, 1, 0, 0, 0) := rfl
theorem zh_X4_putNode_98 : zfe zqX4_putNode.i 98 = some (98, .invokevirtual 45, 3, 37, 3, 4) := rfl
theorem zh_X4_putNode_101 : zfe zqX4_putNode.i 101 = some (101, .goto 36, 3, 0, 0, 0) := rfl
theorem zh_X4_putNode_104 : zfe zqX4_putNode.i 104 = some (104, .aload_n 0, 1, 0, 0, 0) := rfl
theorem zh_X4_putNode_105 : zfe zqX4_putNode.i 105 = some (105, .aload_n 1, 1, 0, 0, 0) := rfl
theorem zh_X4_putNode_106 : zfe zqX4_putNode.i 106 = some (106, .iload_n 2, 1, 0, 0, 0) := rfl
theorem zh_X4_putNode_107 : zfe zqX4_putNode.i 107 = some (107, .invokevirtual 48, 3, 38, 3, 4) := rfl
theorem zh_X4_putNode_110 : zfe zqX4_putNode.i 110 = some (110, .aload_n 0, 1, 0, 0, 0) := rfl
theorem zh_X4_putNode_111 : zfe zqX4_putNode.i 111 = some (111, .aload_n 1, 1, 0, 0, 0) := rfl
theorem zh_X4_putNode_112 : zfe zqX4_putNode.i 112 = some (112, .iload_n 2, 1, 0, 0, 0) := rfl
theorem zh_X4_putNode_113 : zfe zqX4_putNode.i 113 = some (113, .invokevirtual 45, 3, 37, 3, 4) := rfl
theorem zh_X4_putNode_116 : zfe zqX4_putNode.i 116 = some (116, .goto 21, 3, 0, 0, 0) := rfl
theorem zh_X4_putNode_119 : zfe zqX4_putNode.i 119 = some (119, .aload_n 0, 1, 0, 0, 0) := rfl
theorem zh_X4_putNode_120 : zfe zqX4_putNode.i 120 = some (120, .aload_n 1, 1, 0, 0, 0) := rfl
theorem zh_X4_putNode_121 : zfe zqX4_putNode.i 121 = some (121, .iload_n 2, 1, 0, 0, 0) := rfl
theorem zh_X4_putNode_122 : zfe zqX4_putNode.i 122 = some (122, .invokevirtual 48, 3, 38, 3, 4) := rfl
theorem zh_X4_putNode_125 : zfe zqX4_putNode.i 125 = some (125, .aload_n 0, 1, 0, 0, 0) := rfl
theorem zh_X4_putNode_126 : zfe zqX4_putNode.i 126 = some (126, .bipush (-124), 2, 0, 0, 0) := rfl
theorem zh_X4_putNode_128 : zfe zqX4_putNode.i 128 = some (128, .invokevirtual 25, 3, 40, 2, 4) := rfl
theorem zh_X4_putNode_131 : zfe zqX4_putNode.i 131 = some (131, .aload_n 0, 1, 0, 0, 0) := rfl
theorem zh_X4_putNode_132 : zfe zqX4_putNode.i 132 = some (132, .aload_n 1, 1, 0, 0, 0) := rfl
theorem zh_X4_putNode_133 : zfe zqX4_putNode.i 133 = some (133, .iload_n 2, 1, 0, 0, 0) := rfl
theorem zh_X4_putNode_134 : zfe zqX4_putNode.i 134 = some (134, .invokevirtual 45, 3, 37, 3, 4) := rfl
theorem zh_X4_putNode_137 : zfe zqX4_putNode.i 137 = some (137, .return_, 1, 0, 0, 0) := rfl
theorem ze_X4_putNode_0 {d : Nat} {f : zF} {m : zM} {a0 : Value} {x1 : Nat} {x2 : Int32} : zex zTb d zqX4_putNode 0 [a0, .ref x1, .int x2] [] f m = if zisc (f x1) 2 = true then zcal zTb (zrun zTb d 12 [.ref x1, .int x2] f m) d zqX4_putNode 2 5 [a0, .ref x1, .int x2] [] else none := (zxl_go (x := (1, [a0, .ref x1, .int x2], [.ref x1], f, m)) zh_X4_putNode_0 rfl).trans ((zxl_go (x := (2, [a0, .ref x1, .int x2], [.int x2, .ref x1], f, m)) zh_X4_putNode_1 rfl).trans ((zx_virtual4 zh_X4_putNode_2 (Nat.le_of_ble_eq_true rfl) rfl rfl (Nat.le_of_ble_eq_true rfl))))
theorem ze_X4_putNode_5_0 {d : Nat} {f : zF} {m : zM} {a0 a1 a2 : Value} {y0 : Int32} (hs : y0 = I 0) : zex zTb d zqX4_putNode 5 [a0, a1, a2] [.int y0] f m = zex zTb d zqX4_putNode 44 [a0, a1, a2] [] f m := (by rw [hs]; exact (zx_sw zh_X4_putNode_5).trans rfl)
theorem ze_X4_putNode_5_1 {d : Nat} {f : zF} {m : zM} {a0 a1 a2 : Value} {y0 : Int32} (hs : y0 = I 1) : zex zTb d zqX4_putNode 5 [a0, a1, a2] [.int y0] f m = zex zTb d zqX4_putNode 53 [a0, a1, a2] [] f m := (by rw [hs]; exact (zx_sw zh_X4_putNode_5).trans rfl)
theorem ze_X4_putNode_5_2 {d : Nat} {f : zF} {m : zM} {a0 a1 a2 : Value} {y0 : Int32} (hs : y0 = I 2) : zex zTb d zqX4_putNode 5 [a0, a1, a2] [.int y0] f m = zex zTb d zqX4_putNode 62 [a0, a1, a2] [] f m := (by rw [hs]; exact (zx_sw zh_X4_putNode_5).trans rfl)
theorem ze_X4_putNode_5_3 {d : Nat} {f : zF} {m : zM} {a0 a1 a2 : Value} {y0 : Int32} (hs : y0 = I 3) : zex zTb d zqX4_putNode 5 [a0, a1, a2] [.int y0] f m = zex zTb d zqX4_putNode 74 [a0, a1, a2] [] f m := (by rw [hs]; exact (zx_sw zh_X4_putNode_5).trans rfl)
theorem ze_X4_putNode_5_4 {d : Nat} {f : zF} {m : zM} {a0 a1 a2 : Value} {y0 : Int32} (hs : y0 = I 4) : zex zTb d zqX4_putNode 5 [a0, a1, a2] [.int y0] f m = zex zTb d zqX4_putNode 89 [a0, a1, a2] [] f m := (by rw [hs]; exact (zx_sw zh_X4_putNode_5).trans rfl)
theorem ze_X4_putNode_5_5 {d : Nat} {f : zF} {m : zM} {a0 a1 a2 : Value} {y0 : Int32} (hs : y0 = I 5) : zex zTb d zqX4_putNode 5 [a0, a1, a2] [.int y0] f m = zex zTb d zqX4_putNode 104 [a0, a1, a2] [] f m := (by rw [hs]; exact (zx_sw zh_X4_putNode_5).trans rfl)
theorem ze_X4_putNode_5_d {d : Nat} {f : zF} {m : zM} {a0 a1 a2 : Value} {y0 : Int32} (hs : (y0).toInt < 0 ∨ 5 < (y0).toInt) : zex zTb d zqX4_putNode 5 [a0, a1, a2] [.int y0] f m = zex zTb d zqX4_putNode 119 [a0, a1, a2] [] f m := ((zx_sw zh_X4_putNode_5).trans (zsw_d hs rfl))
theorem ze_X4_putNode_44 {d : Nat} {f : zF} {m : zM} {x0 : Nat} {a1 a2 : Value} : zex zTb d zqX4_putNode 44 [.ref x0, a1, a2] [] f m = if zisc (f x0) 4 = true then zcal zTb (zrun zTb d 41 [.ref x0, .int (I 48)] f m) d zqX4_putNode 47 50 [.ref x0, a1, a2] [] else none := (zxl_go (x := (45, [.ref x0, a1, a2], [.ref x0], f, m)) zh_X4_putNode_44 rfl).trans ((zx_bipush zh_X4_putNode_45 (by decide)).trans ((zx_virtual4 zh_X4_putNode_47 (Nat.le_of_ble_eq_true rfl) rfl rfl (Nat.le_of_ble_eq_true rfl))))
theorem ze_X4_putNode_50 {d : Nat} {f : zF} {m : zM} {a0 a1 a2 : Value} : zex zTb d zqX4_putNode 50 [a0, a1, a2] [] f m = some (.inl none, f, m) := (zx_goto zh_X4_putNode_50 rfl).trans ((zx_ret zh_X4_putNode_137 rfl))
theorem ze_X4_putNode_53 {d : Nat} {f : zF} {m : zM} {x0 : Nat} {a1 a2 : Value} : zex zTb d zqX4_putNode 53 [.ref x0, a1, a2] [] f m = if zisc (f x0) 4 = true then zcal zTb (zrun zTb d 41 [.ref x0, .int (I 49)] f m) d zqX4_putNode 56 59 [.ref x0, a1, a2] [] else none := (zxl_go (x := (54, [.ref x0, a1, a2], [.ref x0], f, m)) zh_X4_putNode_53 rfl).trans ((zx_bipush zh_X4_putNode_54 (by decide)).trans ((zx_virtual4 zh_X4_putNode_56 (Nat.le_of_ble_eq_true rfl) rfl rfl (Nat.le_of_ble_eq_true rfl))))
theorem ze_X4_putNode_59 {d : Nat} {f : zF} {m : zM} {a0 a1 a2 : Value} : zex zTb d zqX4_putNode 59 [a0, a1, a2] [] f m = some (.inl none, f, m) := (zx_goto zh_X4_putNode_59 rfl).trans ((zx_ret zh_X4_putNode_137 rfl))
theorem ze_X4_putNode_62 {d : Nat} {f : zF} {m : zM} {x0 x1 : Nat} {x2 : Int32} : zex zTb d zqX4_putNode 62 [.ref x0, .ref x1, .int x2] [] f m = if zisc (f x1) 2 = true then zcal zTb (zrun zTb d 13 [.ref x1, .int x2] f m) d zqX4_putNode 65 68 [.ref x0, .ref x1, .int x2] [.ref x0] else none := (zxl_go (x := (63, [.ref x0, .ref x1, .int x2], [.ref x0], f, m)) zh_X4_putNode_62 rfl).trans ((zxl_go (x := (64, [.ref x0, .ref x1, .int x2], [.ref x1, .ref x0], f, m)) zh_X4_putNode_63 rfl).trans ((zxl_go (x := (65, [.ref x0, .ref x1, .int x2], [.int x2, .ref x1, .ref x0], f, m)) zh_X4_putNode_64 rfl).trans ((zx_virtual4 zh_X4_putNode_65 (Nat.le_of_ble_eq_true rfl) rfl rfl (Nat.le_of_ble_eq_true rfl)))))
theorem ze_X4_putNode_68 {d : Nat} {f : zF} {m : zM} {a0 a1 a2 : Value} {y0 : Nat} {y1 : Int32} : zex zTb d zqX4_putNode 68 [a0, a1, a2] [.int y1, .ref y0] f m = if zisc (f y0) 4 = true then zcal zTb (zrun zTb d 41 [.ref y0, .int y1] f m) d zqX4_putNode 68 71 [a0, a1, a2] [] else none := (zx_virtual4 zh_X4_putNode_68 (Nat.le_of_ble_eq_true rfl) rfl rfl (Nat.le_of_ble_eq_true rfl))
theorem ze_X4_putNode_71 {d : Nat} {f : zF} {m : zM} {a0 a1 a2 : Value} : zex zTb d zqX4_putNode 71 [a0, a1, a2] [] f m = some (.inl none, f, m) := (zx_goto zh_X4_putNode_71 rfl).trans ((zx_ret zh_X4_putNode_137 rfl))
theorem ze_X4_putNode_74 {d : Nat} {f : zF} {m : zM} {x0 : Nat} {a1 a2 : Value} : zex zTb d zqX4_putNode 74 [.ref x0, a1, a2] [] f m = if zisc (f x0) 4 = true then zcal zTb (zrun zTb d 40 [.ref x0, .int (I (-63))] f m) d zqX4_putNode 77 80 [.ref x0, a1, a2] [] else none := (zxl_go (x := (75, [.ref x0, a1, a2], [.ref x0], f, m)) zh_X4_putNode_74 rfl).trans ((zx_bipush zh_X4_putNode_75 (by decide)).trans ((zx_virtual4 zh_X4_putNode_77 (Nat.le_of_ble_eq_true rfl) rfl rfl (Nat.le_of_ble_eq_true rfl))))
theorem ze_X4_putNode_80 {d : Nat} {f : zF} {m : zM} {x0 x1 : Nat} {x2 : Int32} : zex zTb d zqX4_putNode 80 [.ref x0, .ref x1, .int x2] [] f m = if zisc (f x0) 4 = true then zcal zTb (zrun zTb d 37 [.ref x0, .ref x1, .int x2] f m) d zqX4_putNode 83 86 [.ref x0, .ref x1, .int x2] [] else none := (zxl_go (x := (81, [.ref x0, .ref x1, .int x2], [.ref x0], f, m)) zh_X4_putNode_80 rfl).trans ((zxl_go (x := (82, [.ref x0, .ref x1, .int x2], [.ref x1, .ref x0], f, m)) zh_X4_putNode_81 rfl).trans ((zxl_go (x := (83, [.ref x0, .ref x1, .int x2], [.int x2, .ref x1, .ref x0], f, m)) zh_X4_putNode_82 rfl).trans ((zx_virtual4 zh_X4_putNode_83 (Nat.le_of_ble_eq_true rfl) rfl rfl (Nat.le_of_ble_eq_true rfl)))))
theorem ze_X4_putNode_86 {d : Nat} {f : zF} {m : zM} {a0 a1 a2 : Value} : zex zTb d zqX4_putNode 86 [a0, a1, a2] [] f m = some (.inl none, f, m) := (zx_goto zh_X4_putNode_86 rfl).trans ((zx_ret zh_X4_putNode_137 rfl))
theorem ze_X4_putNode_89 {d : Nat} {f : zF} {m : zM} {x0 : Nat} {a1 a2 : Value} : zex zTb d zqX4_putNode 89 [.ref x0, a1, a2] [] f m = if zisc (f x0) 4 = true then zcal zTb (zrun zTb d 40 [.ref x0, .int (I (-42))] f m) d zqX4_putNode 92 95 [.ref x0, a1, a2] [] else none := (zxl_go (x := (90, [.ref x0, a1, a2], [.ref x0], f, m)) zh_X4_putNode_89 rfl).trans ((zx_bipush zh_X4_putNode_90 (by decide)).trans ((zx_virtual4 zh_X4_putNode_92 (Nat.le_of_ble_eq_true rfl) rfl rfl (Nat.le_of_ble_eq_true rfl))))
theorem ze_X4_putNode_95 {d : Nat} {f : zF} {m : zM} {x0 x1 : Nat} {x2 : Int32} : zex zTb d zqX4_putNode 95 [.ref x0, .ref x1, .int x2] [] f m = if zisc (f x0) 4 = true then zcal zTb (zrun zTb d 37 [.ref x0, .ref x1, .int x2] f m) d zqX4_putNode 98 101 [.ref x0, .ref x1, .int x2] [] else none := (zxl_go (x := (96, [.ref x0, .ref x1, .int x2], [.ref x0], f, m)) zh_X4_putNode_95 rfl).trans ((zxl_go (x := (97, [.ref x0, .ref x1, .int x2], [.ref x1, .ref x0], f, m)) zh_X4_putNode_96 rfl).trans ((zxl_go (x := (98, [.ref x0, .ref x1, .int x2], [.int x2, .ref x1, .ref x0], f, m)) zh_X4_putNode_97 rfl).trans ((zx_virtual4 zh_X4_putNode_98 (Nat.le_of_ble_eq_true rfl) rfl rfl (Nat.le_of_ble_eq_true rfl)))))
theorem ze_X4_putNode_101 {d : Nat} {f : zF} {m : zM} {a0 a1 a2 : Value} : zex zTb d zqX4_putNode 101 [a0, a1, a2] [] f m = some (.inl none, f, m) := (zx_goto zh_X4_putNode_101 rfl).trans ((zx_ret zh_X4_putNode_137 rfl))
theorem ze_X4_putNode_104 {d : Nat} {f : zF} {m : zM} {x0 x1 : Nat} {x2 : Int32} : zex zTb d zqX4_putNode 104 [.ref x0, .ref x1, .int x2] [] f m = if zisc (f x0) 4 = true then zcal zTb (zrun zTb d 38 [.ref x0, .ref x1, .int x2] f m) d zqX4_putNode 107 110 [.ref x0, .ref x1, .int x2] [] else none := (zxl_go (x := (105, [.ref x0, .ref x1, .int x2], [.ref x0], f, m)) zh_X4_putNode_104 rfl).trans ((zxl_go (x := (106, [.ref x0, .ref x1, .int x2], [.ref x1, .ref x0], f, m)) zh_X4_putNode_105 rfl).trans ((zxl_go (x := (107, [.ref x0, .ref x1, .int x2], [.int x2, .ref x1, .ref x0], f, m)) zh_X4_putNode_106 rfl).trans ((zx_virtual4 zh_X4_putNode_107 (Nat.le_of_ble_eq_true rfl) rfl rfl (Nat.le_of_ble_eq_true rfl)))))
theorem ze_X4_putNode_110 {d : Nat} {f : zF} {m : zM} {x0 x1 : Nat} {x2 : Int32} : zex zTb d zqX4_putNode 110 [.ref x0, .ref x1, .int x2] [] f m = if zisc (f x0) 4 = true then zcal zTb (zrun zTb d 37 [.ref x0, .ref x1, .int x2] f m) d zqX4_putNode 113 116 [.ref x0, .ref x1, .int x2] [] else none := (zxl_go (x := (111, [.ref x0, .ref x1, .int x2], [.ref x0], f, m)) zh_X4_putNode_110 rfl).trans ((zxl_go (x := (112, [.ref x0, .ref x1, .int x2], [.ref x1, .ref x0], f, m)) zh_X4_putNode_111 rfl).trans ((zxl_go (x := (113, [.ref x0, .ref x1, .int x2], [.int x2, .ref x1, .ref x0], f, m)) zh_X4_putNode_112 rfl).trans ((zx_virtual4 zh_X4_putNode_113 (Nat.le_of_ble_eq_true rfl) rfl rfl (Nat.le_of_ble_eq_true rfl)))))
theorem ze_X4_putNode_116 {d : Nat} {f : zF} {m : zM} {a0 a1 a2 : Value} : zex zTb d zqX4_putNode 116 [a0, a1, a2] [] f m = some (.inl none, f, m) := (zx_goto zh_X4_putNode_116 rfl).trans ((zx_ret zh_X4_putNode_137 rfl))
theorem ze_X4_putNode_119 {d : Nat} {f : zF} {m : zM} {x0 x1 : Nat} {x2 : Int32} : zex zTb d zqX4_putNode 119 [.ref x0, .ref x1, .int x2] [] f m = if zisc (f x0) 4 = true then zcal zTb (zrun zTb d 38 [.ref x0, .ref x1, .int x2] f m) d zqX4_putNode 122 125 [.ref x0, .ref x1, .int x2] [] else none := (zxl_go (x := (120, [.ref x0, .ref x1, .int x2], [.ref x0], f, m)) zh_X4_putNode_119 rfl).trans ((zxl_go (x := (121, [.ref x0, .ref x1, .int x2], [.ref x1, .ref x0], f, m)) zh_X4_putNode_120 rfl).trans ((zxl_go (x := (122, [.ref x0, .ref x1, .int x2], [.int x2, .ref x1, .ref x0], f, m)) zh_X4_putNode_121 rfl).trans ((zx_virtual4 zh_X4_putNode_122 (Nat.le_of_ble_eq_true rfl) rfl rfl (Nat.le_of_ble_eq_true rfl)))))
theorem ze_X4_putNode_125 {d : Nat} {f : zF} {m : zM} {x0 : Nat} {a1 a2 : Value} : zex zTb d zqX4_putNode 125 [.ref x0, a1, a2] [] f m = if zisc (f x0) 4 = true then zcal zTb (zrun zTb d 40 [.ref x0, .int (I (-124))] f m) d zqX4_putNode 128 131 [.ref x0, a1, a2] [] else none := (zxl_go (x := (126, [.ref x0, a1, a2], [.ref x0], f, m)) zh_X4_putNode_125 rfl).trans ((zx_bipush zh_X4_putNode_126 (by decide)).trans ((zx_virtual4 zh_X4_putNode_128 (Nat.le_of_ble_eq_true rfl) rfl rfl (Nat.le_of_ble_eq_true rfl))))
theorem ze_X4_putNode_131 {d : Nat} {f : zF} {m : zM} {x0 x1 : Nat} {x2 : Int32} : zex zTb d zqX4_putNode 131 [.ref x0, .ref x1, .int x2] [] f m = if zisc (f x0) 4 = true then zcal zTb (zrun zTb d 37 [.ref x0, .ref x1, .int x2] f m) d zqX4_putNode 134 137 [.ref x0, .ref x1, .int x2] [] else none := (zxl_go (x := (132, [.ref x0, .ref x1, .int x2], [.ref x0], f, m)) zh_X4_putNode_131 rfl).trans ((zxl_go (x := (133, [.ref x0, .ref x1, .int x2], [.ref x1, .ref x0], f, m)) zh_X4_putNode_132 rfl).trans ((zxl_go (x := (134, [.ref x0, .ref x1, .int x2], [.int x2, .ref x1, .ref x0], f, m)) zh_X4_putNode_133 rfl).trans ((zx_virtual4 zh_X4_putNode_134 (Nat.le_of_ble_eq_true rfl) rfl rfl (Nat.le_of_ble_eq_true rfl)))))
theorem ze_X4_putNode_137 {d : Nat} {f : zF} {m : zM} {a0 a1 a2 : Value} : zex zTb d zqX4_putNode 137 [a0, a1, a2] [] f m = some (.inl none, f, m) := (zx_ret zh_X4_putNode_137 rfl)
