/-! RU(Nat.le_of_ble_eq_true rfl)ING ROWS of the methods -/
-- X7_init
theorem zh_X7_init_0 : zfe zqX7_init.i 0 = some (0, .aload_n 0, 1, 0, 0, 0) := rfl
theorem zh_X7_init_1 : zfe zqX7_init.i 1 = some (1, .invokespecial 3, 3, 0, 0, 0) := rfl
theorem zh_X7_init_4 : zfe zqX7_init.i 4 = some (4, .aload_n 0, 1, 0, 0, 0) := rfl
theorem zh_X7_init_5 : zfe zqX7_init.i 5 = some (5, .bipush 6, 2, 0, 0, 0) := rfl
theorem zh_X7_init_7 : zfe zqX7_init.i 7 = some (7, .newarray .int, 2, 0, 0, 0) := rfl
theorem zh_X7_init_9 : zfe zqX7_init.i 9 = some (9, .putfield 9, 3, 7, 0, 1) := rfl
theorem zh_X7_init_12 : zfe zqX7_init.i 12 = some (12, .aload_n 0, 1, 0, 0, 0) := rfl
theorem zh_X7_init_13 : zfe zqX7_init.i 13 = some (13, .bipush 60, 2, 0, 0, 0) := rfl
theorem zh_X7_init_15 : zfe zqX7_init.i 15 = some (15, .bipush 7, 2, 0, 0, 0) := rfl
theorem zh_X7_init_17 : zfe zqX7_init.i 17 = some (17, .multianewarray 15 2, 4, 0, 0, 0) := rfl
theorem zh_X7_init_21 : zfe zqX7_init.i 21 = some (21, .putfield 17, 3, 7, 2, 1) := rfl
theorem zh_X7_init_24 : zfe zqX7_init.i 24 = some (24, .return_, 1, 0, 0, 0) := rfl
theorem ze_X7_init_0 {d : Nat} {f : zF} {nx kk n : Nat} {x0 : Nat} : zex zTb d zqX7_init 0 [.ref x0] [] f (some nx, kk, n) = zex zTb d zqX7_init 9 [.ref x0] [.ref nx, .ref x0] (zup f nx (.inl (0, (6, .inl (fun _ => 0))))) (some (nx + 1), kk + 1, n + 6) := (zxl_go (x := (1, [.ref x0], [.ref x0], f, (some nx, kk, n))) zh_X7_init_0 rfl).trans ((zx_objinit zh_X7_init_1 (Nat.le_of_ble_eq_true rfl)).trans ((zxl_go (x := (5, [.ref x0], [.ref x0], f, (some nx, kk, n))) zh_X7_init_4 rfl).trans ((zx_bipush zh_X7_init_5 (by decide)).trans ((zx_newarr (N := 6) zh_X7_init_7 rfl (by decide) (by decide))))))
theorem ze_X7_init_9 {d : Nat} {f : zF} {m : zM} {a0 : Value} {y0 y1 : Nat} : zex zTb d zqX7_init 9 [a0] [.ref y1, .ref y0] f m = if (zco (f y0) 7 0 && zok (zfty 7 0) (.ref y1)) = true then zex zTb d zqX7_init 12 [a0] [] (zup f y0 (zcs (f y0) 0 (.ref y1))) m else none := (zx_putfield zh_X7_init_9)
theorem ze_X7_init_12 {d : Nat} {f : zF} {nx kk n : Nat} {x0 : Nat} : zex zTb d zqX7_init 12 [.ref x0] [] f (some nx, kk, n) = zex zTb d zqX7_init 21 [.ref x0] [.ref nx, .ref x0] (zmf f nx 60 7 0 (.inl (fun _ => 0))) (some (nx + 61), kk + 61, n + 480) := (zxl_go (x := (13, [.ref x0], [.ref x0], f, (some nx, kk, n))) zh_X7_init_12 rfl).trans ((zx_bipush zh_X7_init_13 (by decide)).trans ((zx_bipush zh_X7_init_15 (by decide)).trans ((zx_multi (N := 60) (K := 7) zh_X7_init_17 rfl (by decide) (by decide) (by decide)))))
theorem ze_X7_init_21 {d : Nat} {f : zF} {m : zM} {a0 : Value} {y0 y1 : Nat} : zex zTb d zqX7_init 21 [a0] [.ref y1, .ref y0] f m = if (zco (f y0) 7 2 && zok (zfty 7 2) (.ref y1)) = true then zex zTb d zqX7_init 24 [a0] [] (zup f y0 (zcs (f y0) 2 (.ref y1))) m else none := (zx_putfield zh_X7_init_21)
theorem ze_X7_init_24 {d : Nat} {f : zF} {m : zM} {a0 : Value} : zex zTb d zqX7_init 24 [a0] [] f m = some (.inl none, f, m) := (zx_ret zh_X7_init_24 rfl)
-- X7_fits
theorem zh_X7_fits_0 : zfe zqX7_fits.i 0 = some (0, .aload_n 0, 1, 0, 0, 0) := rfl
theorem zh_X7_fits_1 : zfe zqX7_fits.i 1 = some (1, .lload_n 2, 1, 0, 0, 0) := rfl
theorem zh_X7_fits_2 : zfe zqX7_fits.i 2 = some (2, .invokevirtual 20, 3, 66, 2, 7) := rfl
theorem zh_X7_fits_5 : zfe zqX7_fits.i 5 = some (5, .aload_n 1, 1, 0, 0, 0) := rfl
theorem zh_X7_fits_6 : zfe zqX7_fits.i 6 = some (6, .getfield 24, 3, 2, 3, 0) := rfl
theorem zh_X7_fits_9 : zfe zqX7_fits.i 9 = some (9, .iconst 1, 1, 0, 0, 0) := rfl
theorem zh_X7_fits_10 : zfe zqX7_fits.i 10 = some (10, .isub, 1, 0, 0, 0) := rfl
theorem zh_X7_fits_11 : zfe zqX7_fits.i 11 = some (11, .istore 4, 2, 0, 0, 0) := rfl
theorem zh_X7_fits_13 : zfe zqX7_fits.i 13 = some (13, .iload 4, 2, 0, 0, 0) := rfl
theorem zh_X7_fits_15 : zfe zqX7_fits.i 15 = some (15, .ifCond .lt 55, 3, 0, 0, 0) := rfl
theorem zh_X7_fits_18 : zfe zqX7_fits.i 18 = some (18, .iload 4, 2, 0, 0, 0) := rfl
theorem zh_X7_fits_20 : zfe zqX7_fits.i 20 = some (20, .aload_n 0, 1, 0, 0, 0) := rfl
theorem zh_X7_fits_21 : zfe zqX7_fits.i 21 = some (21, .getfield 17, 3, 7, 2, 0) := rfl
theorem zh_X7_fits_24 : zfe zqX7_fits.i 24 = some (24, .arraylength, 1, 0, 0, 0) := rfl
theorem zh_X7_fits_25 : zfe zqX7_fits.i 25 = some (25, .if_icmp .ge 45, 3, 0, 0, 0) := rfl
theorem zh_X7_fits_28 : zfe zqX7_fits.i 28 = some (28, .aload_n 0, 1, 0, 0, 0) := rfl
theorem zh_X7_fits_29 : zfe zqX7_fits.i 29 = some (29, .getfield 30, 3, 7, 1, 0) := rfl
theorem zh_X7_fits_32 : zfe zqX7_fits.i 32 = some (32, .istore 5, 2, 0, 0, 0) := rfl
theorem zh_X7_fits_34 : zfe zqX7_fits.i 34 = some (34, .iload 5, 2, 0, 0, 0) := rfl
theorem zh_X7_fits_36 : zfe zqX7_fits.i 36 = some (36, .ifCond .lt 28, 3, 0, 0, 0) := rfl
theorem zh_X7_fits_39 : zfe zqX7_fits.i 39 = some (39, .aload_n 0, 1, 0, 0, 0) := rfl
theorem zh_X7_fits_40 : zfe zqX7_fits.i 40 = some (40, .getfield 17, 3, 7, 2, 0) := rfl
theorem zh_X7_fits_43 : zfe zqX7_fits.i 43 = some (43, .iload 4, 2, 0, 0, 0) := rfl
theorem zh_X7_fits_45 : zfe zqX7_fits.i 45 = some (45, .aaload, 1, 0, 0, 0) := rfl
theorem zh_X7_fits_46 : zfe zqX7_fits.i 46 = some (46, .iload 5, 2, 0, 0, 0) := rfl
theorem zh_X7_fits_48 : zfe zqX7_fits.i 48 = some (48, .aload_n 0, 1, 0, 0, 0) := rfl
theorem zh_X7_fits_49 : zfe zqX7_fits.i 49 = some (49, .aload_n 1, 1, 0, 0, 0) := rfl
theorem zh_X7_fits_50 : zfe zqX7_fits.i 50 = some (50, .iload 4, 2, 0, 0, 0) := rfl
theorem zh_X7_fits_52 : zfe zqX7_fits.i 52 = some (52, .iload 5, 2, 0, 0, 0) := rfl
theorem zh_X7_fits_54 : zfe zqX7_fits.i 54 = some (54, .invokevirtual 33, 3, 67, 4, 7) := rfl
theorem zh_X7_fits_57 : zfe zqX7_fits.i 57 = some (57, .iastore, 1, 0, 0, 0) := rfl
theorem zh_X7_fits_58 : zfe zqX7_fits.i 58 = some (58, .iinc 5 (-1), 3, 0, 0, 0) := rfl
theorem zh_X7_fits_61 : zfe zqX7_fits.i 61 = some (61, .goto (-27), 3, 0, 0, 0) := rfl
theorem zh_X7_fits_64 : zfe zqX7_fits.i 64 = some (64, .iinc 4 (-1), 3, 0, 0, 0) := rfl
theorem zh_X7_fits_67 : zfe zqX7_fits.i 67 = some (67, .goto (-54), 3, 0, 0, 0) := rfl
theorem zh_X7_fits_70 : zfe zqX7_fits.i 70 = some (70, .aload_n 0, 1, 0, 0, 0) := rfl
theorem zh_X7_fits_71 : zfe zqX7_fits.i 71 = some (71, .getfield 17, 3, 7, 2, 0) := rfl
theorem zh_X7_fits_74 : zfe zqX7_fits.i 74 = some (74, .iconst 0, 1, 0, 0, 0) := rfl
theorem zh_X7_fits_75 : zfe zqX7_fits.i 75 = some (75, .aaload, 1, 0, 0, 0) := rfl
theorem zh_X7_fits_76 : zfe zqX7_fits.i 76 = some (76, .iconst 0, 1, 0, 0, 0) := rfl
theorem zh_X7_fits_77 : zfe zqX7_fits.i 77 = some (77, .iaload, 1, 0, 0, 0) := rfl
theorem zh_X7_fits_78 : zfe zqX7_fits.i 78 = some (78, .aload_n 0, 1, 0, 0, 0) := rfl
theorem zh_X7_fits_79 : zfe zqX7_fits.i 79 = some (79, .getfield 30, 3, 7, 1, 0) := rfl
theorem zh_X7_fits_82 : zfe zqX7_fits.i 82 = some (82, .iushr, 1, 0, 0, 0) := rfl
theorem zh_X7_fits_83 : zfe zqX7_fits.i 83 = some (83, .iconst 1, 1, 0, 0, 0) := rfl
theorem zh_X7_fits_84 : zfe zqX7_fits.i 84 = some (84, .iand, 1, 0, 0, 0) := rfl
theorem zh_X7_fits_85 : zfe zqX7_fits.i 85 = some (85, .ifCond .eq 7, 3, 0, 0, 0) := rfl
theorem zh_X7_fits_88 : zfe zqX7_fits.i 88 = some (88, .iconst 1, 1, 0, 0, 0) := rfl
theorem zh_X7_fits_89 : zfe zqX7_fits.i 89 = some (89, .goto 4, 3, 0, 0, 0) := rfl
theorem zh_X7_fits_92 : zfe zqX7_fits.i 92 = some (92, .iconst 0, 1, 0, 0, 0) := rfl
theorem zh_X7_fits_93 : zfe zqX7_fits.i 93 = some (93, .ireturn, 1, 0, 0, 0) := rfl
theorem ze_X7_fits_0 {d : Nat} {f : zF} {m : zM} {x0 : Nat} {a1 a3 a4 a5 : Value} {x2 : Int64} : zex zTb d zqX7_fits 0 [.ref x0, a1, .long x2, a3, a4, a5] [] f m = if zisc (f x0) 7 = true then zcal zTb (zrun zTb d 66 [.ref x0, .long x2] f m) d zqX7_fits 2 5 [.ref x0, a1, .long x2, a3, a4, a5] [] else none := (zxl_go (x := (1, [.ref x0, a1, .long x2, a3, a4, a5], [.ref x0], f, m)) zh_X7_fits_0 rfl).trans ((zxl_go (x := (2, [.ref x0, a1, .long x2, a3, a4, a5], [.long x2, .ref x0], f, m)) zh_X7_fits_1 rfl).trans ((zx_virtual4 zh_X7_fits_2 (Nat.le_of_ble_eq_true rfl) rfl rfl (Nat.le_of_ble_eq_true rfl))))
theorem ze_X7_fits_5 {d : Nat} {f : zF} {m : zM} {a0 a2 a3 a4 a5 : Value} {x1 : Nat} : zex zTb d zqX7_fits 5 [a0, .ref x1, a2, a3, a4, a5] [] f m = if zco (f x1) 2 3 = true then zex zTb d zqX7_fits 9 [a0, .ref x1, a2, a3, a4, a5] [zcf (f x1) 3] f m else none := (zxl_go (x := (6, [a0, .ref x1, a2, a3, a4, a5], [.ref x1], f, m)) zh_X7_fits_5 rfl).trans ((zx_getfield zh_X7_fits_6))
theorem ze_X7_fits_9 {d : Nat} {f : zF} {m : zM} {a0 a1 a2 a3 a4 a5 : Value} {y0 : Int32} : zex zTb d zqX7_fits 9 [a0, a1, a2, a3, a4, a5] [.int y0] f m = zex zTb d zqX7_fits 13 [a0, a1, a2, (zclr a3), .int (y0 - (I 1)), a5] [] f m := (zx_iconst zh_X7_fits_9).trans ((zxl_go (x := (11, [a0, a1, a2, a3, a4, a5], [.int (y0 - (I 1))], f, m)) zh_X7_fits_10 rfl).trans ((zxl_go (x := (13, [a0, a1, a2, (zclr a3), .int (y0 - (I 1)), a5], [], f, m)) zh_X7_fits_11 rfl)))
theorem ze_X7_fits_13 {d : Nat} {f : zF} {m : zM} {a0 a1 a2 a3 a5 : Value} {x4 : Int32} : zex zTb d zqX7_fits 13 [a0, a1, a2, a3, .int x4, a5] [] f m = if zc1 .lt x4 = true then zex zTb d zqX7_fits 70 [a0, a1, a2, a3, .int x4, a5] [] f m else zex zTb d zqX7_fits 18 [a0, a1, a2, a3, .int x4, a5] [] f m := (zxl_go (x := (15, [a0, a1, a2, a3, .int x4, a5], [.int x4], f, m)) zh_X7_fits_13 rfl).trans ((zx_if (tgt := 70) zh_X7_fits_15 rfl))
theorem ze_X7_fits_18 {d : Nat} {f : zF} {m : zM} {x0 : Nat} {a1 a2 a3 a5 : Value} {x4 : Int32} : zex zTb d zqX7_fits 18 [.ref x0, a1, a2, a3, .int x4, a5] [] f m = if zco (f x0) 7 2 = true then zex zTb d zqX7_fits 24 [.ref x0, a1, a2, a3, .int x4, a5] [zcf (f x0) 2, .int x4] f m else none := (zxl_go (x := (20, [.ref x0, a1, a2, a3, .int x4, a5], [.int x4], f, m)) zh_X7_fits_18 rfl).trans ((zxl_go (x := (21, [.ref x0, a1, a2, a3, .int x4, a5], [.ref x0, .int x4], f, m)) zh_X7_fits_20 rfl).trans ((zx_getfield zh_X7_fits_21)))
theorem ze_X7_fits_24 {d : Nat} {f : zF} {m : zM} {a0 a1 a2 a3 a4 a5 : Value} {y0 : Int32} {y1 : Nat} : zex zTb d zqX7_fits 24 [a0, a1, a2, a3, a4, a5] [.ref y1, .int y0] f m = if zisa (f y1) = true then zex zTb d zqX7_fits 25 [a0, a1, a2, a3, a4, a5] [.int (Int32.ofNat (zln (f y1))), .int y0] f m else none := (zx_alen zh_X7_fits_24)
theorem ze_X7_fits_25 {d : Nat} {f : zF} {m : zM} {a0 a1 a2 a3 a4 a5 : Value} {y0 y1 : Int32} : zex zTb d zqX7_fits 25 [a0, a1, a2, a3, a4, a5] [.int y1, .int y0] f m = if zc2 .ge y0 y1 = true then zex zTb d zqX7_fits 70 [a0, a1, a2, a3, a4, a5] [] f m else zex zTb d zqX7_fits 28 [a0, a1, a2, a3, a4, a5] [] f m := (zx_icmp (tgt := 70) zh_X7_fits_25 rfl)
theorem ze_X7_fits_28 {d : Nat} {f : zF} {m : zM} {x0 : Nat} {a1 a2 a3 a4 a5 : Value} : zex zTb d zqX7_fits 28 [.ref x0, a1, a2, a3, a4, a5] [] f m = if zco (f x0) 7 1 = true then zex zTb d zqX7_fits 32 [.ref x0, a1, a2, a3, a4, a5] [zcf (f x0) 1] f m else none := (zxl_go (x := (29, [.ref x0, a1, a2, a3, a4, a5], [.ref x0], f, m)) zh_X7_fits_28 rfl).trans ((zx_getfield zh_X7_fits_29))
theorem ze_X7_fits_32 {d : Nat} {f : zF} {m : zM} {a0 a1 a2 a3 a4 a5 : Value} {y0 : Int32} : zex zTb d zqX7_fits 32 [a0, a1, a2, a3, a4, a5] [.int y0] f m = zex zTb d zqX7_fits 34 [a0, a1, a2, a3, (zclr a4), .int y0] [] f m := (zxl_go (x := (34, [a0, a1, a2, a3, (zclr a4), .int y0], [], f, m)) zh_X7_fits_32 rfl)
theorem ze_X7_fits_34 {d : Nat} {f : zF} {m : zM} {a0 a1 a2 a3 a4 : Value} {x5 : Int32} : zex zTb d zqX7_fits 34 [a0, a1, a2, a3, a4, .int x5] [] f m = if zc1 .lt x5 = true then zex zTb d zqX7_fits 64 [a0, a1, a2, a3, a4, .int x5] [] f m else zex zTb d zqX7_fits 39 [a0, a1, a2, a3, a4, .int x5] [] f m := (zxl_go (x := (36, [a0, a1, a2, a3, a4, .int x5], [.int x5], f, m)) zh_X7_fits_34 rfl).trans ((zx_if (tgt := 64) zh_X7_fits_36 rfl))
theorem ze_X7_fits_39 {d : Nat} {f : zF} {m : zM} {x0 : Nat} {a1 a2 a3 a4 a5 : Value} : zex zTb d zqX7_fits 39 [.ref x0, a1, a2, a3, a4, a5] [] f m = if zco (f x0) 7 2 = true then zex zTb d zqX7_fits 43 [.ref x0, a1, a2, a3, a4, a5] [zcf (f x0) 2] f m else none := (zxl_go (x := (40, [.ref x0, a1, a2, a3, a4, a5], [.ref x0], f, m)) zh_X7_fits_39 rfl).trans ((zx_getfield zh_X7_fits_40))
theorem ze_X7_fits_43 {d : Nat} {f : zF} {m : zM} {a0 a1 a2 a3 a5 : Value} {x4 : Int32} {y0 : Nat} : zex zTb d zqX7_fits 43 [a0, a1, a2, a3, .int x4, a5] [.ref y0] f m = if zrq (f y0) x4 = true then zex zTb d zqX7_fits 46 [a0, a1, a2, a3, .int x4, a5] [.ref (zgq (f y0) x4.toNatClampNeg)] f m else none := (zxl_go (x := (45, [a0, a1, a2, a3, .int x4, a5], [.int x4, .ref y0], f, m)) zh_X7_fits_43 rfl).trans ((zx_aaload zh_X7_fits_45))
theorem ze_X7_fits_46 {d : Nat} {f : zF} {m : zM} {x0 x1 y0 : Nat} {a2 a3 : Value} {x4 x5 : Int32} : zex zTb d zqX7_fits 46 [.ref x0, .ref x1, a2, a3, .int x4, .int x5] [.ref y0] f m = if zisc (f x0) 7 = true then zcal zTb (zrun zTb d 67 [.ref x0, .ref x1, .int x4, .int x5] f m) d zqX7_fits 54 57 [.ref x0, .ref x1, a2, a3, .int x4, .int x5] [.int x5, .ref y0] else none := (zxl_go (x := (48, [.ref x0, .ref x1, a2, a3, .int x4, .int x5], [.int x5, .ref y0], f, m)) zh_X7_fits_46 rfl).trans ((zxl_go (x := (49, [.ref x0, .ref x1, a2, a3, .int x4, .int x5], [.ref x0, .int x5, .ref y0], f, m)) zh_X7_fits_48 rfl).trans ((zxl_go (x := (50, [.ref x0, .ref x1, a2, a3, .int x4, .int x5], [.ref x1, .ref x0, .int x5, .ref y0], f, m)) zh_X7_fits_49 rfl).trans ((zxl_go (x := (52, [.ref x0, .ref x1, a2, a3, .int x4, .int x5], [.int x4, .ref x1, .ref x0, .int x5, .ref y0], f, m)) zh_X7_fits_50 rfl).trans ((zxl_go (x := (54, [.ref x0, .ref x1, a2, a3, .int x4, .int x5], [.int x5, .int x4, .ref x1, .ref x0, .int x5, .ref y0], f, m)) zh_X7_fits_52 rfl).trans ((zx_virtual4 zh_X7_fits_54 (Nat.le_of_ble_eq_true rfl) rfl rfl (Nat.le_of_ble_eq_true rfl)))))))
theorem ze_X7_fits_57 {d : Nat} {f : zF} {m : zM} {a0 a1 a2 a3 a4 a5 : Value} {y0 : Nat} {y1 y2 : Int32} : zex zTb d zqX7_fits 57 [a0, a1, a2, a3, a4, a5] [.int y2, .int y1, .ref y0] f m = if zri (f y0) 0 y1 = true then zex zTb d zqX7_fits 58 [a0, a1, a2, a3, a4, a5] [] (zup f y0 (zwi (f y0) 0 y1.toNatClampNeg y2)) m else none := (zx_iastore zh_X7_fits_57)
theorem ze_X7_fits_58 {d : Nat} {f : zF} {m : zM} {a0 a1 a2 a3 a4 : Value} {x5 : Int32} : zex zTb d zqX7_fits 58 [a0, a1, a2, a3, a4, .int x5] [] f m = zex zTb d zqX7_fits 34 [a0, a1, a2, a3, (zclr a4), .int (x5 + I (-1))] [] f m := (zxl_go (x := (61, [a0, a1, a2, a3, (zclr a4), .int (x5 + I (-1))], [], f, m)) zh_X7_fits_58 rfl).trans ((zx_goto zh_X7_fits_61 rfl))
theorem ze_X7_fits_64 {d : Nat} {f : zF} {m : zM} {a0 a1 a2 a3 a5 : Value} {x4 : Int32} : zex zTb d zqX7_fits 64 [a0, a1, a2, a3, .int x4, a5] [] f m = zex zTb d zqX7_fits 13 [a0, a1, a2, (zclr a3), .int (x4 + I (-1)), a5] [] f m := (zxl_go (x := (67, [a0, a1, a2, (zclr a3), .int (x4 + I (-1)), a5], [], f, m)) zh_X7_fits_64 rfl).trans ((zx_goto zh_X7_fits_67 rfl))
theorem ze_X7_fits_70 {d : Nat} {f : zF} {m : zM} {x0 : Nat} {a1 a2 a3 a4 a5 : Value} : zex zTb d zqX7_fits 70 [.ref x0, a1, a2, a3, a4, a5] [] f m = if zco (f x0) 7 2 = true then zex zTb d zqX7_fits 74 [.ref x0, a1, a2, a3, a4, a5] [zcf (f x0) 2] f m else none := (zxl_go (x := (71, [.ref x0, a1, a2, a3, a4, a5], [.ref x0], f, m)) zh_X7_fits_70 rfl).trans ((zx_getfield zh_X7_fits_71))
theorem ze_X7_fits_74 {d : Nat} {f : zF} {m : zM} {a0 a1 a2 a3 a4 a5 : Value} {y0 : Nat} : zex zTb d zqX7_fits 74 [a0, a1, a2, a3, a4, a5] [.ref y0] f m = if zrq (f y0) (I 0) = true then zex zTb d zqX7_fits 76 [a0, a1, a2, a3, a4, a5] [.ref (zgq (f y0) (I 0).toNatClampNeg)] f m else none := (zx_iconst zh_X7_fits_74).trans ((zx_aaload zh_X7_fits_75))
theorem ze_X7_fits_76 {d : Nat} {f : zF} {m : zM} {a0 a1 a2 a3 a4 a5 : Value} {y0 : Nat} : zex zTb d zqX7_fits 76 [a0, a1, a2, a3, a4, a5] [.ref y0] f m = if zr8 (f y0) (I 0) = true then zex zTb d zqX7_fits 78 [a0, a1, a2, a3, a4, a5] [.int (zgi (f y0) (I 0).toNatClampNeg)] f m else none := (zx_iconst zh_X7_fits_76).trans ((zx_iaload zh_X7_fits_77))
theorem ze_X7_fits_78 {d : Nat} {f : zF} {m : zM} {x0 : Nat} {a1 a2 a3 a4 a5 : Value} {y0 : Int32} : zex zTb d zqX7_fits 78 [.ref x0, a1, a2, a3, a4, a5] [.int y0] f m = if zco (f x0) 7 1 = true then zex zTb d zqX7_fits 82 [.ref x0, a1, a2, a3, a4, a5] [zcf (f x0) 1, .int y0] f m else none := (zxl_go (x := (79, [.ref x0, a1, a2, a3, a4, a5], [.ref x0, .int y0], f, m)) zh_X7_fits_78 rfl).trans ((zx_getfield zh_X7_fits_79))
theorem ze_X7_fits_82 {d : Nat} {f : zF} {m : zM} {a0 a1 a2 a3 a4 a5 : Value} {y0 y1 : Int32} : zex zTb d zqX7_fits 82 [a0, a1, a2, a3, a4, a5] [.int y1, .int y0] f m = if zc1 .eq (((y0.toUInt32 >>> (y1.toUInt32 &&& Int32.toUInt32 31)).toInt32) &&& (I 1)) = true then zex zTb d zqX7_fits 92 [a0, a1, a2, a3, a4, a5] [] f m else zex zTb d zqX7_fits 88 [a0, a1, a2, a3, a4, a5] [] f m := (zxl_go (x := (83, [a0, a1, a2, a3, a4, a5], [.int ((y0.toUInt32 >>> (y1.toUInt32 &&& Int32.toUInt32 31)).toInt32)], f, m)) zh_X7_fits_82 rfl).trans ((zx_iconst zh_X7_fits_83).trans ((zxl_go (x := (85, [a0, a1, a2, a3, a4, a5], [.int (((y0.toUInt32 >>> (y1.toUInt32 &&& Int32.toUInt32 31)).toInt32) &&& (I 1))], f, m)) zh_X7_fits_84 rfl).trans ((zx_if (tgt := 92) zh_X7_fits_85 rfl))))
theorem ze_X7_fits_88 {d : Nat} {f : zF} {m : zM} {a0 a1 a2 a3 a4 a5 : Value} : zex zTb d zqX7_fits 88 [a0, a1, a2, a3, a4, a5] [] f m = some (.inl (some (.int (I 1))), f, m) := (zx_iconst zh_X7_fits_88).trans ((zx_goto zh_X7_fits_89 rfl).trans ((zx_iret zh_X7_fits_93 (by first | rfl | decide))))
theorem ze_X7_fits_92 {d : Nat} {f : zF} {m : zM} {a0 a1 a2 a3 a4 a5 : Value} : zex zTb d zqX7_fits 92 [a0, a1, a2, a3, a4, a5] [] f m = some (.inl (some (.int (I 0))), f, m) := (zx_iconst zh_X7_fits_92).trans ((zx_iret zh_X7_fits_93 (by first | rfl | decide)))
-- X7_spell
theorem zh_X7_spell_0 : zfe zqX7_spell.i 0 = some (0, .aload_n 0, 1, 0, 0, 0) := rfl
theorem zh_X7_spell_1 : zfe zqX7_spell.i 1 = some (1, .lload_n 1, 1, 0, 0, 0) := rfl
theorem zh_X7_spell_2 : zfe zqX7_spell.i 2 = some (2, .invokestatic 37, 3, 73, 1, 0) := rfl
theorem zh_X7_spell_5 : zfe zqX7_spell.i 5 = some (5, .putfield 30, 3, 7, 1, 0) := rfl
theorem zh_X7_spell_8 : zfe zqX7_spell.i 8 = some (8, .iconst 0, 1, 0, 0, 0) := rfl
theorem zh_X7_spell_9 : zfe zqX7_spell.i 9 = some (9, .istore_n 3, 1, 0, 0, 0) := rfl
theorem zh_X7_spell_10 : zfe zqX7_spell.i 10 = some (10, .iload_n 3, 1, 0, 0, 0) := rfl
theorem zh_X7_spell_11 : zfe zqX7_spell.i 11 = some (11, .aload_n 0, 1, 0, 0, 0) := rfl
theorem zh_X7_spell_12 : zfe zqX7_spell.i 12 = some (12, .getfield 30, 3, 7, 1, 0) := rfl
theorem zh_X7_spell_15 : zfe zqX7_spell.i 15 = some (15, .if_icmp .ge 42, 3, 0, 0, 0) := rfl
theorem zh_X7_spell_18 : zfe zqX7_spell.i 18 = some (18, .iload_n 3, 1, 0, 0, 0) := rfl
theorem zh_X7_spell_19 : zfe zqX7_spell.i 19 = some (19, .aload_n 0, 1, 0, 0, 0) := rfl
theorem zh_X7_spell_20 : zfe zqX7_spell.i 20 = some (20, .getfield 9, 3, 7, 0, 0) := rfl
theorem zh_X7_spell_23 : zfe zqX7_spell.i 23 = some (23, .arraylength, 1, 0, 0, 0) := rfl
theorem zh_X7_spell_24 : zfe zqX7_spell.i 24 = some (24, .if_icmp .ge 33, 3, 0, 0, 0) := rfl
theorem zh_X7_spell_27 : zfe zqX7_spell.i 27 = some (27, .aload_n 0, 1, 0, 0, 0) := rfl
theorem zh_X7_spell_28 : zfe zqX7_spell.i 28 = some (28, .getfield 9, 3, 7, 0, 0) := rfl
theorem zh_X7_spell_31 : zfe zqX7_spell.i 31 = some (31, .iload_n 3, 1, 0, 0, 0) := rfl
theorem zh_X7_spell_32 : zfe zqX7_spell.i 32 = some (32, .lload_n 1, 1, 0, 0, 0) := rfl
theorem zh_X7_spell_33 : zfe zqX7_spell.i 33 = some (33, .bipush 8, 2, 0, 0, 0) := rfl
theorem zh_X7_spell_35 : zfe zqX7_spell.i 35 = some (35, .aload_n 0, 1, 0, 0, 0) := rfl
theorem zh_X7_spell_36 : zfe zqX7_spell.i 36 = some (36, .getfield 30, 3, 7, 1, 0) := rfl
theorem zh_X7_spell_39 : zfe zqX7_spell.i 39 = some (39, .iconst 1, 1, 0, 0, 0) := rfl
theorem zh_X7_spell_40 : zfe zqX7_spell.i 40 = some (40, .isub, 1, 0, 0, 0) := rfl
theorem zh_X7_spell_41 : zfe zqX7_spell.i 41 = some (41, .iload_n 3, 1, 0, 0, 0) := rfl
theorem zh_X7_spell_42 : zfe zqX7_spell.i 42 = some (42, .isub, 1, 0, 0, 0) := rfl
theorem zh_X7_spell_43 : zfe zqX7_spell.i 43 = some (43, .imul, 1, 0, 0, 0) := rfl
theorem zh_X7_spell_44 : zfe zqX7_spell.i 44 = some (44, .lushr, 1, 0, 0, 0) := rfl
theorem zh_X7_spell_45 : zfe zqX7_spell.i 45 = some (45, .ldc2_w 43, 3, 255, 0, 0) := rfl
theorem zh_X7_spell_48 : zfe zqX7_spell.i 48 = some (48, .land, 1, 0, 0, 0) := rfl
theorem zh_X7_spell_49 : zfe zqX7_spell.i 49 = some (49, .l2i, 1, 0, 0, 0) := rfl
theorem zh_X7_spell_50 : zfe zqX7_spell.i 50 = some (50, .iastore, 1, 0, 0, 0) := rfl
theorem zh_X7_spell_51 : zfe zqX7_spell.i 51 = some (51, .iinc 3 1, 3, 0, 0, 0) := rfl
theorem zh_X7_spell_54 : zfe zqX7_spell.i 54 = some (54, .goto (-44), 3, 0, 0, 0) := rfl
theorem zh_X7_spell_57 : zfe zqX7_spell.i 57 = some (57, .return_, 1, 0, 0, 0) := rfl
theorem ze_X7_spell_0 {d : Nat} {f : zF} {m : zM} {x0 : Nat} {x1 : Int64} {a2 a3 : Value} : zex zTb d zqX7_spell 0 [.ref x0, .long x1, a2, a3] [] f m = zcal zTb (zrun zTb d 73 [.long x1] f m) d zqX7_spell 2 5 [.ref x0, .long x1, a2, a3] [.ref x0] := (zxl_go (x := (1, [.ref x0, .long x1, a2, a3], [.ref x0], f, m)) zh_X7_spell_0 rfl).trans ((zxl_go (x := (2, [.ref x0, .long x1, a2, a3], [.long x1, .ref x0], f, m)) zh_X7_spell_1 rfl).trans (((zx_static zh_X7_spell_2 (Nat.le_of_ble_eq_true rfl) rfl rfl).trans (if_pos (Nat.le_of_ble_eq_true rfl)))))
theorem ze_X7_spell_5 {d : Nat} {f : zF} {m : zM} {a0 a1 a2 a3 : Value} {y0 : Nat} {y1 : Int32} : zex zTb d zqX7_spell 5 [a0, a1, a2, a3] [.int y1, .ref y0] f m = if (zco (f y0) 7 1 && zok (zfty 7 1) (.int y1)) = true then zex zTb d zqX7_spell 8 [a0, a1, a2, a3] [] (zup f y0 (zcs (f y0) 1 (.int y1))) m else none := (zx_putfield zh_X7_spell_5)
theorem ze_X7_spell_8 {d : Nat} {f : zF} {m : zM} {a0 a1 a2 a3 : Value} : zex zTb d zqX7_spell 8 [a0, a1, a2, a3] [] f m = zex zTb d zqX7_spell 10 [a0, a1, (zclr a2), .int (I 0)] [] f m := (zx_iconst zh_X7_spell_8).trans ((zxl_go (x := (10, [a0, a1, (zclr a2), .int (I 0)], [], f, m)) zh_X7_spell_9 rfl))
theorem ze_X7_spell_10 {d : Nat} {f : zF} {m : zM} {x0 : Nat} {a1 a2 : Value} {x3 : Int32} : zex zTb d zqX7_spell 10 [.ref x0, a1, a2, .int x3] [] f m = if zco (f x0) 7 1 = true then zex zTb d zqX7_spell 15 [.ref x0, a1, a2, .int x3] [zcf (f x0) 1, .int x3] f m else none := (zxl_go (x := (11, [.ref x0, a1, a2, .int x3], [.int x3], f, m)) zh_X7_spell_10 rfl).trans ((zxl_go (x := (12, [.ref x0, a1, a2, .int x3], [.ref x0, .int x3], f, m)) zh_X7_spell_11 rfl).trans ((zx_getfield zh_X7_spell_12)))
theorem ze_X7_spell_15 {d : Nat} {f : zF} {m : zM} {a0 a1 a2 a3 : Value} {y0 y1 : Int32} : zex zTb d zqX7_spell 15 [a0, a1, a2, a3] [.int y1, .int y0] f m = if zc2 .ge y0 y1 = true then zex zTb d zqX7_spell 57 [a0, a1, a2, a3] [] f m else zex zTb d zqX7_spell 18 [a0, a1, a2, a3] [] f m := (zx_icmp (tgt := 57) zh_X7_spell_15 rfl)
theorem ze_X7_spell_18 {d : Nat} {f : zF} {m : zM} {x0 : Nat} {a1 a2 : Value} {x3 : Int32} : zex zTb d zqX7_spell 18 [.ref x0, a1, a2, .int x3] [] f m = if zco (f x0) 7 0 = true then zex zTb d zqX7_spell 23 [.ref x0, a1, a2, .int x3] [zcf (f x0) 0, .int x3] f m else none := (zxl_go (x := (19, [.ref x0, a1, a2, .int x3], [.int x3], f, m)) zh_X7_spell_18 rfl).trans ((zxl_go (x := (20, [.ref x0, a1, a2, .int x3], [.ref x0, .int x3], f, m)) zh_X7_spell_19 rfl).trans ((zx_getfield zh_X7_spell_20)))
theorem ze_X7_spell_23 {d : Nat} {f : zF} {m : zM} {a0 a1 a2 a3 : Value} {y0 : Int32} {y1 : Nat} : zex zTb d zqX7_spell 23 [a0, a1, a2, a3] [.ref y1, .int y0] f m = if zisa (f y1) = true then zex zTb d zqX7_spell 24 [a0, a1, a2, a3] [.int (Int32.ofNat (zln (f y1))), .int y0] f m else none := (zx_alen zh_X7_spell_23)
theorem ze_X7_spell_24 {d : Nat} {f : zF} {m : zM} {a0 a1 a2 a3 : Value} {y0 y1 : Int32} : zex zTb d zqX7_spell 24 [a0, a1, a2, a3] [.int y1, .int y0] f m = if zc2 .ge y0 y1 = true then zex zTb d zqX7_spell 57 [a0, a1, a2, a3] [] f m else zex zTb d zqX7_spell 27 [a0, a1, a2, a3] [] f m := (zx_icmp (tgt := 57) zh_X7_spell_24 rfl)
theorem ze_X7_spell_27 {d : Nat} {f : zF} {m : zM} {x0 : Nat} {a1 a2 a3 : Value} : zex zTb d zqX7_spell 27 [.ref x0, a1, a2, a3] [] f m = if zco (f x0) 7 0 = true then zex zTb d zqX7_spell 31 [.ref x0, a1, a2, a3] [zcf (f x0) 0] f m else none := (zxl_go (x := (28, [.ref x0, a1, a2, a3], [.ref x0], f, m)) zh_X7_spell_27 rfl).trans ((zx_getfield zh_X7_spell_28))
theorem ze_X7_spell_31 {d : Nat} {f : zF} {m : zM} {x0 y0 : Nat} {x1 : Int64} {a2 : Value} {x3 : Int32} : zex zTb d zqX7_spell 31 [.ref x0, .long x1, a2, .int x3] [.ref y0] f m = if zco (f x0) 7 1 = true then zex zTb d zqX7_spell 39 [.ref x0, .long x1, a2, .int x3] [zcf (f x0) 1, .int (I 8), .long x1, .int x3, .ref y0] f m else none := (zxl_go (x := (32, [.ref x0, .long x1, a2, .int x3], [.int x3, .ref y0], f, m)) zh_X7_spell_31 rfl).trans ((zxl_go (x := (33, [.ref x0, .long x1, a2, .int x3], [.long x1, .int x3, .ref y0], f, m)) zh_X7_spell_32 rfl).trans ((zx_bipush zh_X7_spell_33 (by decide)).trans ((zxl_go (x := (36, [.ref x0, .long x1, a2, .int x3], [.ref x0, .int (I 8), .long x1, .int x3, .ref y0], f, m)) zh_X7_spell_35 rfl).trans ((zx_getfield zh_X7_spell_36)))))
theorem ze_X7_spell_39 {d : Nat} {f : zF} {m : zM} {a0 a1 a2 : Value} {x3 y1 y3 y4 : Int32} {y0 : Nat} {y2 : Int64} : zex zTb d zqX7_spell 39 [a0, a1, a2, .int x3] [.int y4, .int y3, .long y2, .int y1, .ref y0] f m = if zri (f y0) 0 y1 = true then zex zTb d zqX7_spell 51 [a0, a1, a2, .int x3] [] (zup f y0 (zwi (f y0) 0 y1.toNatClampNeg ((((y2.toUInt64 >>> ((y3 * ((y4 - (I 1)) - x3)).toInt64.toUInt64 &&& Int64.toUInt64 63)).toInt64) &&& (J 255)).toInt32))) m else none := (zx_iconst zh_X7_spell_39).trans ((zxl_go (x := (41, [a0, a1, a2, .int x3], [.int (y4 - (I 1)), .int y3, .long y2, .int y1, .ref y0], f, m)) zh_X7_spell_40 rfl).trans ((zxl_go (x := (42, [a0, a1, a2, .int x3], [.int x3, .int (y4 - (I 1)), .int y3, .long y2, .int y1, .ref y0], f, m)) zh_X7_spell_41 rfl).trans ((zxl_go (x := (43, [a0, a1, a2, .int x3], [.int ((y4 - (I 1)) - x3), .int y3, .long y2, .int y1, .ref y0], f, m)) zh_X7_spell_42 rfl).trans ((zxl_go (x := (44, [a0, a1, a2, .int x3], [.int (y3 * ((y4 - (I 1)) - x3)), .long y2, .int y1, .ref y0], f, m)) zh_X7_spell_43 rfl).trans ((zxl_go (x := (45, [a0, a1, a2, .int x3], [.long ((y2.toUInt64 >>> ((y3 * ((y4 - (I 1)) - x3)).toInt64.toUInt64 &&& Int64.toUInt64 63)).toInt64), .int y1, .ref y0], f, m)) zh_X7_spell_44 rfl).trans ((zx_ldc2 (v := 255) zh_X7_spell_45 (by decide)).trans ((zxl_go (x := (49, [a0, a1, a2, .int x3], [.long (((y2.toUInt64 >>> ((y3 * ((y4 - (I 1)) - x3)).toInt64.toUInt64 &&& Int64.toUInt64 63)).toInt64) &&& (J 255)), .int y1, .ref y0], f, m)) zh_X7_spell_48 rfl).trans ((zxl_go (x := (50, [a0, a1, a2, .int x3], [.int ((((y2.toUInt64 >>> ((y3 * ((y4 - (I 1)) - x3)).toInt64.toUInt64 &&& Int64.toUInt64 63)).toInt64) &&& (J 255)).toInt32), .int y1, .ref y0], f, m)) zh_X7_spell_49 rfl).trans ((zx_iastore zh_X7_spell_50))))))))))
theorem ze_X7_spell_51 {d : Nat} {f : zF} {m : zM} {a0 a1 a2 : Value} {x3 : Int32} : zex zTb d zqX7_spell 51 [a0, a1, a2, .int x3] [] f m = zex zTb d zqX7_spell 10 [a0, a1, (zclr a2), .int (x3 + I 1)] [] f m := (zxl_go (x := (54, [a0, a1, (zclr a2), .int (x3 + I 1)], [], f, m)) zh_X7_spell_51 rfl).trans ((zx_goto zh_X7_spell_54 rfl))
theorem ze_X7_spell_57 {d : Nat} {f : zF} {m : zM} {a0 a1 a2 a3 : Value} : zex zTb d zqX7_spell 57 [a0, a1, a2, a3] [] f m = some (.inl none, f, m) := (zx_ret zh_X7_spell_57 rfl)
-- X7_endsOf
theorem zh_X7_endsOf_0 : zfe zqX7_endsOf.i 0 = some (0, .iconst 1, 1, 0, 0, 0) := rfl
theorem zh_X7_endsOf_1 : zfe zqX7_endsOf.i 1 = some (1, .iload_n 3, 1, 0, 0, 0) := rfl
theorem zh_X7_endsOf_2 : zfe zqX7_endsOf.i 2 = some (2, .ishl, 1, 0, 0, 0) := rfl
theorem zh_X7_endsOf_3 : zfe zqX7_endsOf.i 3 = some (3, .istore 4, 2, 0, 0, 0) := rfl
theorem zh_X7_endsOf_5 : zfe zqX7_endsOf.i 5 = some (5, .aload_n 1, 1, 0, 0, 0) := rfl
theorem zh_X7_endsOf_6 : zfe zqX7_endsOf.i 6 = some (6, .iload_n 2, 1, 0, 0, 0) := rfl
theorem zh_X7_endsOf_7 : zfe zqX7_endsOf.i 7 = some (7, .invokevirtual 45, 3, 12, 2, 2) := rfl
theorem zh_X7_endsOf_10 : zfe zqX7_endsOf.i 10 = some (10, .tableswitch 147 0 5 #[38, 40, 43, 95, 107, 129], 38, 0, 0, 0) := rfl
theorem zh_X7_endsOf_48 : zfe zqX7_endsOf.i 48 = some (48, .iconst 0, 1, 0, 0, 0) := rfl
theorem zh_X7_endsOf_49 : zfe zqX7_endsOf.i 49 = some (49, .ireturn, 1, 0, 0, 0) := rfl
theorem zh_X7_endsOf_50 : zfe zqX7_endsOf.i 50 = some (50, .iload 4, 2, 0, 0, 0) := rfl
theorem zh_X7_endsOf_52 : zfe zqX7_endsOf.i 52 = some (52, .ireturn, 1, 0, 0, 0) := rfl
theorem zh_X7_endsOf_53 : zfe zqX7_endsOf.i 53 = some (53, .iload_n 3, 1, 0, 0, 0) := rfl
theorem zh_X7_endsOf_54 : zfe zqX7_endsOf.i 54 = some (54, .aload_n 0, 1, 0, 0, 0) := rfl
theorem zh_X7_endsOf_55 : zfe zqX7_endsOf.i 55 = some (55, .getfield 30, 3, 7, 1, 0) := rfl
theorem zh_X7_endsOf_58 : zfe zqX7_endsOf.i 58 = some (58, .if_icmp .ge 30, 3, 0, 0, 0) := rfl
theorem zh_X7_endsOf_61 : zfe zqX7_endsOf.i 61 = some (61, .iload_n 3, 1, 0, 0, 0) := rfl
theorem zh_X7_endsOf_62 : zfe zqX7_endsOf.i 62 = some (62, .aload_n 0, 1, 0, 0, 0) := rfl
theorem zh_X7_endsOf_63 : zfe zqX7_endsOf.i 63 = some (63, .getfield 9, 3, 7, 0, 0) := rfl
theorem zh_X7_endsOf_66 : zfe zqX7_endsOf.i 66 = some (66, .arraylength, 1, 0, 0, 0) := rfl
theorem zh_X7_endsOf_67 : zfe zqX7_endsOf.i 67 = some (67, .if_icmp .ge 21, 3, 0, 0, 0) := rfl
theorem zh_X7_endsOf_70 : zfe zqX7_endsOf.i 70 = some (70, .aload_n 0, 1, 0, 0, 0) := rfl
theorem zh_X7_endsOf_71 : zfe zqX7_endsOf.i 71 = some (71, .getfield 9, 3, 7, 0, 0) := rfl
theorem zh_X7_endsOf_74 : zfe zqX7_endsOf.i 74 = some (74, .iload_n 3, 1, 0, 0, 0) := rfl
theorem zh_X7_endsOf_75 : zfe zqX7_endsOf.i 75 = some (75, .iaload, 1, 0, 0, 0) := rfl
theorem zh_X7_endsOf_76 : zfe zqX7_endsOf.i 76 = some (76, .aload_n 1, 1, 0, 0, 0) := rfl
theorem zh_X7_endsOf_77 : zfe zqX7_endsOf.i 77 = some (77, .iload_n 2, 1, 0, 0, 0) := rfl
theorem zh_X7_endsOf_78 : zfe zqX7_endsOf.i 78 = some (78, .invokevirtual 49, 3, 13, 2, 2) := rfl
theorem zh_X7_endsOf_81 : zfe zqX7_endsOf.i 81 = some (81, .if_icmp .ne 7, 3, 0, 0, 0) := rfl
theorem zh_X7_endsOf_84 : zfe zqX7_endsOf.i 84 = some (84, .iconst 1, 1, 0, 0, 0) := rfl
theorem zh_X7_endsOf_85 : zfe zqX7_endsOf.i 85 = some (85, .goto 4, 3, 0, 0, 0) := rfl
theorem zh_X7_endsOf_88 : zfe zqX7_endsOf.i 88 = some (88, .iconst 0, 1, 0, 0, 0) := rfl
theorem zh_X7_endsOf_89 : zfe zqX7_endsOf.i 89 = some (89, .istore 5, 2, 0, 0, 0) := rfl
theorem zh_X7_endsOf_91 : zfe zqX7_endsOf.i 91 = some (91, .iload 5, 2, 0, 0, 0) := rfl
theorem zh_X7_endsOf_93 : zfe zqX7_endsOf.i 93 = some (93, .ifCond .eq 10, 3, 0, 0, 0) := rfl
theorem zh_X7_endsOf_96 : zfe zqX7_endsOf.i 96 = some (96, .iload 4, 2, 0, 0, 0) := rfl
theorem zh_X7_endsOf_98 : zfe zqX7_endsOf.i 98 = some (98, .iconst 1, 1, 0, 0, 0) := rfl
theorem zh_X7_endsOf_99 : zfe zqX7_endsOf.i 99 = some (99, .ishl, 1, 0, 0, 0) := rfl
theorem zh_X7_endsOf_100 : zfe zqX7_endsOf.i 100 = some (100, .goto 4, 3, 0, 0, 0) := rfl
theorem zh_X7_endsOf_103 : zfe zqX7_endsOf.i 103 = some (103, .iconst 0, 1, 0, 0, 0) := rfl
theorem zh_X7_endsOf_104 : zfe zqX7_endsOf.i 104 = some (104, .ireturn, 1, 0, 0, 0) := rfl
theorem zh_X7_endsOf_105 : zfe zqX7_endsOf.i 105 = some (105, .iload 4, 2, 0, 0, 0) := rfl
theorem zh_X7_endsOf_107 : zfe zqX7_endsOf.i 107 = some (107, .aload_n 0, 1, 0, 0, 0) := rfl
theorem zh_X7_endsOf_108 : zfe zqX7_endsOf.i 108 = some (108, .iload_n 2, 1, 0, 0, 0) := rfl
theorem zh_X7_endsOf_109 : zfe zqX7_endsOf.i 109 = some (109, .iconst 1, 1, 0, 0, 0) := rfl
theorem zh_X7_endsOf_110 : zfe zqX7_endsOf.i 110 = some (110, .iadd, 1, 0, 0, 0) := rfl
theorem zh_X7_endsOf_111 : zfe zqX7_endsOf.i 111 = some (111, .iload_n 3, 1, 0, 0, 0) := rfl
theorem zh_X7_endsOf_112 : zfe zqX7_endsOf.i 112 = some (112, .invokevirtual 52, 3, 68, 3, 7) := rfl
theorem zh_X7_endsOf_115 : zfe zqX7_endsOf.i 115 = some (115, .ior, 1, 0, 0, 0) := rfl
theorem zh_X7_endsOf_116 : zfe zqX7_endsOf.i 116 = some (116, .ireturn, 1, 0, 0, 0) := rfl
theorem zh_X7_endsOf_117 : zfe zqX7_endsOf.i 117 = some (117, .iload 4, 2, 0, 0, 0) := rfl
theorem zh_X7_endsOf_119 : zfe zqX7_endsOf.i 119 = some (119, .aload_n 0, 1, 0, 0, 0) := rfl
theorem zh_X7_endsOf_120 : zfe zqX7_endsOf.i 120 = some (120, .aload_n 0, 1, 0, 0, 0) := rfl
theorem zh_X7_endsOf_121 : zfe zqX7_endsOf.i 121 = some (121, .iload_n 2, 1, 0, 0, 0) := rfl
theorem zh_X7_endsOf_122 : zfe zqX7_endsOf.i 122 = some (122, .iconst 1, 1, 0, 0, 0) := rfl
theorem zh_X7_endsOf_123 : zfe zqX7_endsOf.i 123 = some (123, .iadd, 1, 0, 0, 0) := rfl
theorem zh_X7_endsOf_124 : zfe zqX7_endsOf.i 124 = some (124, .iload_n 3, 1, 0, 0, 0) := rfl
theorem zh_X7_endsOf_125 : zfe zqX7_endsOf.i 125 = some (125, .invokevirtual 52, 3, 68, 3, 7) := rfl
theorem zh_X7_endsOf_128 : zfe zqX7_endsOf.i 128 = some (128, .iload 4, 2, 0, 0, 0) := rfl
theorem zh_X7_endsOf_130 : zfe zqX7_endsOf.i 130 = some (130, .iconst (-1), 1, 0, 0, 0) := rfl
theorem zh_X7_endsOf_131 : zfe zqX7_endsOf.i 131 = some (131, .ixor, 1, 0, 0, 0) := rfl
theorem zh_X7_endsOf_132 : zfe zqX7_endsOf.i 132 = some (132, .iand, 1, 0, 0, 0) := rfl
theorem zh_X7_endsOf_133 : zfe zqX7_endsOf.i 133 = some (133, .iload_n 2, 1, 0, 0, 0) := rfl
theorem zh_X7_endsOf_134 : zfe zqX7_endsOf.i 134 = some (134, .invokevirtual 56, 3, 69, 3, 7) := rfl
theorem zh_X7_endsOf_137 : zfe zqX7_endsOf.i 137 = some (137, .ior, 1, 0, 0, 0) := rfl
theorem zh_X7_endsOf_138 : zfe zqX7_endsOf.i 138 = some (138, .ireturn, 1, 0, 0, 0) := rfl
theorem zh_X7_endsOf_139 : zfe zqX7_endsOf.i 139 = some (139, .aload_n 0, 1, 0, 0, 0) := rfl
theorem zh_X7_endsOf_140 : zfe zqX7_endsOf.i 140 = some (140, .aload_n 0, 1, 0, 0, 0) := rfl
theorem zh_X7_endsOf_141 : zfe zqX7_endsOf.i 141 = some (141, .iload_n 2, 1, 0, 0, 0) := rfl
theorem zh_X7_endsOf_142 : zfe zqX7_endsOf.i 142 = some (142, .iconst 1, 1, 0, 0, 0) := rfl
theorem zh_X7_endsOf_143 : zfe zqX7_endsOf.i 143 = some (143, .iadd, 1, 0, 0, 0) := rfl
theorem zh_X7_endsOf_144 : zfe zqX7_endsOf.i 144 = some (144, .iload_n 3, 1, 0, 0, 0) := rfl
theorem zh_X7_endsOf_145 : zfe zqX7_endsOf.i 145 = some (145, .invokevirtual 52, 3, 68, 3, 7) := rfl
theorem zh_X7_endsOf_148 : zfe zqX7_endsOf.i 148 = some (148, .aload_n 1, 1, 0, 0, 0) := rfl
theorem zh_X7_endsOf_149 : zfe zqX7_endsOf.i 149 = some (149, .iload_n 2, 1, 0, 0, 0) := rfl
theorem zh_X7_endsOf_150 : zfe zqX7_endsOf.i 150 = some (150, .invokevirtual 59, 3, 14, 2, 2) := rfl
theorem zh_X7_endsOf_153 : zfe zqX7_endsOf.i 153 = some (153, .invokevirtual 56, 3, 69, 3, 7) := rfl
theorem zh_X7_endsOf_156 : zfe zqX7_endsOf.i 156 = some (156, .ireturn, 1, 0, 0, 0) := rfl
theorem zh_X7_endsOf_157 : zfe zqX7_endsOf.i 157 = some (157, .aload_n 0, 1, 0, 0, 0) := rfl
theorem zh_X7_endsOf_158 : zfe zqX7_endsOf.i 158 = some (158, .iload_n 2, 1, 0, 0, 0) := rfl
theorem zh_X7_endsOf_159 : zfe zqX7_endsOf.i 159 = some (159, .iconst 1, 1, 0, 0, 0) := rfl
theorem zh_X7_endsOf_160 : zfe zqX7_endsOf.i 160 = some (160, .iadd, 1, 0, 0, 0) := rfl
theorem zh_X7_endsOf_161 : zfe zqX7_endsOf.i 161 = some (161, .iload_n 3, 1, 0, 0, 0) := rfl
theorem zh_X7_endsOf_162 : zfe zqX7_endsOf.i 162 = some (162, .invokevirtual 52, 3, 68, 3, 7) := rfl
theorem zh_X7_endsOf_165 : zfe zqX7_endsOf.i 165 = some (165, .aload_n 0, 1, 0, 0, 0) := rfl
theorem zh_X7_endsOf_166 : zfe zqX7_endsOf.i 166 = some (166, .aload_n 1, 1, 0, 0, 0) := rfl
theorem zh_X7_endsOf_167 : zfe zqX7_endsOf.i 167 = some (167, .iload_n 2, 1, 0, 0, 0) := rfl
theorem zh_X7_endsOf_168 : zfe zqX7_endsOf.i 168 = some (168, .invokevirtual 59, 3, 14, 2, 2) := rfl
theorem zh_X7_endsOf_171 : zfe zqX7_endsOf.i 171 = some (171, .iload_n 3, 1, 0, 0, 0) := rfl
theorem zh_X7_endsOf_172 : zfe zqX7_endsOf.i 172 = some (172, .invokevirtual 52, 3, 68, 3, 7) := rfl
theorem zh_X7_endsOf_175 : zfe zqX7_endsOf.i 175 = some (175, .ior, 1, 0, 0, 0) := rfl
theorem zh_X7_endsOf_176 : zfe zqX7_endsOf.i 176 = some (176, .ireturn, 1, 0, 0, 0) := rfl
theorem ze_X7_endsOf_0 {d : Nat} {f : zF} {m : zM} {a0 a4 a5 : Value} {x1 : Nat} {x2 x3 : Int32} : zex zTb d zqX7_endsOf 0 [a0, .ref x1, .int x2, .int x3, a4, a5] [] f m = if zisc (f x1) 2 = true then zcal zTb (zrun zTb d 12 [.ref x1, .int x2] f m) d zqX7_endsOf 7 10 [a0, .ref x1, .int x2, .int x3, .int ((I 1) <<< (x3 &&& 31)), a5] [] else none := (zx_iconst zh_X7_endsOf_0).trans ((zxl_go (x := (2, [a0, .ref x1, .int x2, .int x3, a4, a5], [.int x3, .int (I 1)], f, m)) zh_X7_endsOf_1 rfl).trans ((zxl_go (x := (3, [a0, .ref x1, .int x2, .int x3, a4, a5], [.int ((I 1) <<< (x3 &&& 31))], f, m)) zh_X7_endsOf_2 rfl).trans ((zxl_go (x := (5, [a0, .ref x1, .int x2, .int x3, .int ((I 1) <<< (x3 &&& 31)), a5], [], f, m)) zh_X7_endsOf_3 rfl).trans ((zxl_go (x := (6, [a0, .ref x1, .int x2, .int x3, .int ((I 1) <<< (x3 &&& 31)), a5], [.ref x1], f, m)) zh_X7_endsOf_5 rfl).trans ((zxl_go (x := (7, [a0, .ref x1, .int x2, .int x3, .int ((I 1) <<< (x3 &&& 31)), a5], [.int x2, .ref x1], f, m)) zh_X7_endsOf_6 rfl).trans ((zx_virtual4 zh_X7_endsOf_7 (Nat.le_of_ble_eq_true rfl) rfl rfl (Nat.le_of_ble_eq_true rfl))))))))
theorem ze_X7_endsOf_10_0 {d : Nat} {f : zF} {m : zM} {a0 a1 a2 a3 a4 a5 : Value} {y0 : Int32} (hs : y0 = I 0) : zex zTb d zqX7_endsOf 10 [a0, a1, a2, a3, a4, a5] [.int y0] f m = zex zTb d zqX7_endsOf 48 [a0, a1, a2, a3, a4, a5] [] f m := (by rw [hs]; exact (zx_sw zh_X7_endsOf_10).trans rfl)
theorem ze_X7_endsOf_10_1 {d : Nat} {f : zF} {m : zM} {a0 a1 a2 a3 a4 a5 : Value} {y0 : Int32} (hs : y0 = I 1) : zex zTb d zqX7_endsOf 10 [a0, a1, a2, a3, a4, a5] [.int y0] f m = zex zTb d zqX7_endsOf 50 [a0, a1, a2, a3, a4, a5] [] f m := (by rw [hs]; exact (zx_sw zh_X7_endsOf_10).trans rfl)
theorem ze_X7_endsOf_10_2 {d : Nat} {f : zF} {m : zM} {a0 a1 a2 a3 a4 a5 : Value} {y0 : Int32} (hs : y0 = I 2) : zex zTb d zqX7_endsOf 10 [a0, a1, a2, a3, a4, a5] [.int y0] f m = zex zTb d zqX7_endsOf 53 [a0, a1, a2, a3, a4, a5] [] f m := (by rw [hs]; exact (zx_sw zh_X7_endsOf_10).trans rfl)
theorem ze_X7_endsOf_10_3 {d : Nat} {f : zF} {m : zM} {a0 a1 a2 a3 a4 a5 : Value} {y0 : Int32} (hs : y0 = I 3) : zex zTb d zqX7_endsOf 10 [a0, a1, a2, a3, a4, a5] [.int y0] f m = zex zTb d zqX7_endsOf 105 [a0, a1, a2, a3, a4, a5] [] f m := (by rw [hs]; exact (zx_sw zh_X7_endsOf_10).trans rfl)
theorem ze_X7_endsOf_10_4 {d : Nat} {f : zF} {m : zM} {a0 a1 a2 a3 a4 a5 : Value} {y0 : Int32} (hs : y0 = I 4) : zex zTb d zqX7_endsOf 10 [a0, a1, a2, a3, a4, a5] [.int y0] f m = zex zTb d zqX7_endsOf 117 [a0, a1, a2, a3, a4, a5] [] f m := (by rw [hs]; exact (zx_sw zh_X7_endsOf_10).trans rfl)
theorem ze_X7_endsOf_10_5 {d : Nat} {f : zF} {m : zM} {a0 a1 a2 a3 a4 a5 : Value} {y0 : Int32} (hs : y0 = I 5) : zex zTb d zqX7_endsOf 10 [a0, a1, a2, a3, a4, a5] [.int y0] f m = zex zTb d zqX7_endsOf 139 [a0, a1, a2, a3, a4, a5] [] f m := (by rw [hs]; exact (zx_sw zh_X7_endsOf_10).trans rfl)
theorem ze_X7_endsOf_10_d {d : Nat} {f : zF} {m : zM} {a0 a1 a2 a3 a4 a5 : Value} {y0 : Int32} (hs : (y0).toInt < 0 ∨ 5 < (y0).toInt) : zex zTb d zqX7_endsOf 10 [a0, a1, a2, a3, a4, a5] [.int y0] f m = zex zTb d zqX7_endsOf 157 [a0, a1, a2, a3, a4, a5] [] f m := ((zx_sw zh_X7_endsOf_10).trans (zsw_d hs rfl))
theorem ze_X7_endsOf_48 {d : Nat} {f : zF} {m : zM} {a0 a1 a2 a3 a4 a5 : Value} : zex zTb d zqX7_endsOf 48 [a0, a1, a2, a3, a4, a5] [] f m = some (.inl (some (.int (I 0))), f, m) := (zx_iconst zh_X7_endsOf_48).trans ((zx_iret zh_X7_endsOf_49 (by first | rfl | decide)))
theorem ze_X7_endsOf_50 {d : Nat} {f : zF} {m : zM} {a0 a1 a2 a3 a5 : Value} {x4 : Int32} : zex zTb d zqX7_endsOf 50 [a0, a1, a2, a3, .int x4, a5] [] f m = some (.inl (some (.int x4)), f, m) := (zxl_go (x := (52, [a0, a1, a2, a3, .int x4, a5], [.int x4], f, m)) zh_X7_endsOf_50 rfl).trans ((zx_iret zh_X7_endsOf_52 (by first | rfl | decide)))
theorem ze_X7_endsOf_53 {d : Nat} {f : zF} {m : zM} {x0 : Nat} {a1 a2 a4 a5 : Value} {x3 : Int32} : zex zTb d zqX7_endsOf 53 [.ref x0, a1, a2, .int x3, a4, a5] [] f m = if zco (f x0) 7 1 = true then zex zTb d zqX7_endsOf 58 [.ref x0, a1, a2, .int x3, a4, a5] [zcf (f x0) 1, .int x3] f m else none := (zxl_go (x := (54, [.ref x0, a1, a2, .int x3, a4, a5], [.int x3], f, m)) zh_X7_endsOf_53 rfl).trans ((zxl_go (x := (55, [.ref x0, a1, a2, .int x3, a4, a5], [.ref x0, .int x3], f, m)) zh_X7_endsOf_54 rfl).trans ((zx_getfield zh_X7_endsOf_55)))
theorem ze_X7_endsOf_58 {d : Nat} {f : zF} {m : zM} {a0 a1 a2 a3 a4 a5 : Value} {y0 y1 : Int32} : zex zTb d zqX7_endsOf 58 [a0, a1, a2, a3, a4, a5] [.int y1, .int y0] f m = if zc2 .ge y0 y1 = true then zex zTb d zqX7_endsOf 88 [a0, a1, a2, a3, a4, a5] [] f m else zex zTb d zqX7_endsOf 61 [a0, a1, a2, a3, a4, a5] [] f m := (zx_icmp (tgt := 88) zh_X7_endsOf_58 rfl)
theorem ze_X7_endsOf_61 {d : Nat} {f : zF} {m : zM} {x0 : Nat} {a1 a2 a4 a5 : Value} {x3 : Int32} : zex zTb d zqX7_endsOf 61 [.ref x0, a1, a2, .int x3, a4, a5] [] f m = if zco (f x0) 7 0 = true then zex zTb d zqX7_endsOf 66 [.ref x0, a1, a2, .int x3, a4, a5] [zcf (f x0) 0, .int x3] f m else none := (zxl_go (x := (62, [.ref x0, a1, a2, .int x3, a4, a5], [.int x3], f, m)) zh_X7_endsOf_61 rfl).trans ((zxl_go (x := (63, [.ref x0, a1, a2, .int x3, a4, a5], [.ref x0, .int x3], f, m)) zh_X7_endsOf_62 rfl).trans ((zx_getfield zh_X7_endsOf_63)))
theorem ze_X7_endsOf_66 {d : Nat} {f : zF} {m : zM} {a0 a1 a2 a3 a4 a5 : Value} {y0 : Int32} {y1 : Nat} : zex zTb d zqX7_endsOf 66 [a0, a1, a2, a3, a4, a5] [.ref y1, .int y0] f m = if zisa (f y1) = true then zex zTb d zqX7_endsOf 67 [a0, a1, a2, a3, a4, a5] [.int (Int32.ofNat (zln (f y1))), .int y0] f m else none := (zx_alen zh_X7_endsOf_66)
theorem ze_X7_endsOf_67 {d : Nat} {f : zF} {m : zM} {a0 a1 a2 a3 a4 a5 : Value} {y0 y1 : Int32} : zex zTb d zqX7_endsOf 67 [a0, a1, a2, a3, a4, a5] [.int y1, .int y0] f m = if zc2 .ge y0 y1 = true then zex zTb d zqX7_endsOf 88 [a0, a1, a2, a3, a4, a5] [] f m else zex zTb d zqX7_endsOf 70 [a0, a1, a2, a3, a4, a5] [] f m := (zx_icmp (tgt := 88) zh_X7_endsOf_67 rfl)
theorem ze_X7_endsOf_70 {d : Nat} {f : zF} {m : zM} {x0 : Nat} {a1 a2 a3 a4 a5 : Value} : zex zTb d zqX7_endsOf 70 [.ref x0, a1, a2, a3, a4, a5] [] f m = if zco (f x0) 7 0 = true then zex zTb d zqX7_endsOf 74 [.ref x0, a1, a2, a3, a4, a5] [zcf (f x0) 0] f m else none := (zxl_go (x := (71, [.ref x0, a1, a2, a3, a4, a5], [.ref x0], f, m)) zh_X7_endsOf_70 rfl).trans ((zx_getfield zh_X7_endsOf_71))
theorem ze_X7_endsOf_74 {d : Nat} {f : zF} {m : zM} {a0 a1 a2 a4 a5 : Value} {x3 : Int32} {y0 : Nat} : zex zTb d zqX7_endsOf 74 [a0, a1, a2, .int x3, a4, a5] [.ref y0] f m = if zr8 (f y0) x3 = true then zex zTb d zqX7_endsOf 76 [a0, a1, a2, .int x3, a4, a5] [.int (zgi (f y0) x3.toNatClampNeg)] f m else none := (zxl_go (x := (75, [a0, a1, a2, .int x3, a4, a5], [.int x3, .ref y0], f, m)) zh_X7_endsOf_74 rfl).trans ((zx_iaload zh_X7_endsOf_75))
theorem ze_X7_endsOf_76 {d : Nat} {f : zF} {m : zM} {a0 a3 a4 a5 : Value} {x1 : Nat} {x2 y0 : Int32} : zex zTb d zqX7_endsOf 76 [a0, .ref x1, .int x2, a3, a4, a5] [.int y0] f m = if zisc (f x1) 2 = true then zcal zTb (zrun zTb d 13 [.ref x1, .int x2] f m) d zqX7_endsOf 78 81 [a0, .ref x1, .int x2, a3, a4, a5] [.int y0] else none := (zxl_go (x := (77, [a0, .ref x1, .int x2, a3, a4, a5], [.ref x1, .int y0], f, m)) zh_X7_endsOf_76 rfl).trans ((zxl_go (x := (78, [a0, .ref x1, .int x2, a3, a4, a5], [.int x2, .ref x1, .int y0], f, m)) zh_X7_endsOf_77 rfl).trans ((zx_virtual4 zh_X7_endsOf_78 (Nat.le_of_ble_eq_true rfl) rfl rfl (Nat.le_of_ble_eq_true rfl))))
theorem ze_X7_endsOf_81 {d : Nat} {f : zF} {m : zM} {a0 a1 a2 a3 a4 a5 : Value} {y0 y1 : Int32} : zex zTb d zqX7_endsOf 81 [a0, a1, a2, a3, a4, a5] [.int y1, .int y0] f m = if zc2 .ne y0 y1 = true then zex zTb d zqX7_endsOf 88 [a0, a1, a2, a3, a4, a5] [] f m else zex zTb d zqX7_endsOf 84 [a0, a1, a2, a3, a4, a5] [] f m := (zx_icmp (tgt := 88) zh_X7_endsOf_81 rfl)
theorem ze_X7_endsOf_84 {d : Nat} {f : zF} {m : zM} {a0 a1 a2 a3 a4 a5 : Value} : zex zTb d zqX7_endsOf 84 [a0, a1, a2, a3, a4, a5] [] f m = if zc1 .eq (I 1) = true then zex zTb d zqX7_endsOf 103 [a0, a1, a2, a3, (zclr a4), .int (I 1)] [] f m else zex zTb d zqX7_endsOf 96 [a0, a1, a2, a3, (zclr a4), .int (I 1)] [] f m := (zx_iconst zh_X7_endsOf_84).trans ((zx_goto zh_X7_endsOf_85 rfl).trans ((zxl_go (x := (91, [a0, a1, a2, a3, (zclr a4), .int (I 1)], [], f, m)) zh_X7_endsOf_89 rfl).trans ((zxl_go (x := (93, [a0, a1, a2, a3, (zclr a4), .int (I 1)], [.int (I 1)], f, m)) zh_X7_endsOf_91 rfl).trans ((zx_if (tgt := 103) zh_X7_endsOf_93 rfl)))))
theorem ze_X7_endsOf_88 {d : Nat} {f : zF} {m : zM} {a0 a1 a2 a3 a4 a5 : Value} : zex zTb d zqX7_endsOf 88 [a0, a1, a2, a3, a4, a5] [] f m = if zc1 .eq (I 0) = true then zex zTb d zqX7_endsOf 103 [a0, a1, a2, a3, (zclr a4), .int (I 0)] [] f m else zex zTb d zqX7_endsOf 96 [a0, a1, a2, a3, (zclr a4), .int (I 0)] [] f m := (zx_iconst zh_X7_endsOf_88).trans ((zxl_go (x := (91, [a0, a1, a2, a3, (zclr a4), .int (I 0)], [], f, m)) zh_X7_endsOf_89 rfl).trans ((zxl_go (x := (93, [a0, a1, a2, a3, (zclr a4), .int (I 0)], [.int (I 0)], f, m)) zh_X7_endsOf_91 rfl).trans ((zx_if (tgt := 103) zh_X7_endsOf_93 rfl))))
theorem ze_X7_endsOf_96 {d : Nat} {f : zF} {m : zM} {a0 a1 a2 a3 a5 : Value} {x4 : Int32} : zex zTb d zqX7_endsOf 96 [a0, a1, a2, a3, .int x4, a5] [] f m = some (.inl (some (.int (x4 <<< ((I 1) &&& 31)))), f, m) := (zxl_go (x := (98, [a0, a1, a2, a3, .int x4, a5], [.int x4], f, m)) zh_X7_endsOf_96 rfl).trans ((zx_iconst zh_X7_endsOf_98).trans ((zxl_go (x := (100, [a0, a1, a2, a3, .int x4, a5], [.int (x4 <<< ((I 1) &&& 31))], f, m)) zh_X7_endsOf_99 rfl).trans ((zx_goto zh_X7_endsOf_100 rfl).trans ((zx_iret zh_X7_endsOf_104 (by first | rfl | decide))))))
theorem ze_X7_endsOf_103 {d : Nat} {f : zF} {m : zM} {a0 a1 a2 a3 a4 a5 : Value} : zex zTb d zqX7_endsOf 103 [a0, a1, a2, a3, a4, a5] [] f m = some (.inl (some (.int (I 0))), f, m) := (zx_iconst zh_X7_endsOf_103).trans ((zx_iret zh_X7_endsOf_104 (by first | rfl | decide)))
theorem ze_X7_endsOf_105 {d : Nat} {f : zF} {m : zM} {x0 : Nat} {a1 a5 : Value} {x2 x3 x4 : Int32} : zex zTb d zqX7_endsOf 105 [.ref x0, a1, .int x2, .int x3, .int x4, a5] [] f m = if zisc (f x0) 7 = true then zcal zTb (zrun zTb d 68 [.ref x0, .int (x2 + (I 1)), .int x3] f m) d zqX7_endsOf 112 115 [.ref x0, a1, .int x2, .int x3, .int x4, a5] [.int x4] else none := (zxl_go (x := (107, [.ref x0, a1, .int x2, .int x3, .int x4, a5], [.int x4], f, m)) zh_X7_endsOf_105 rfl).trans ((zxl_go (x := (108, [.ref x0, a1, .int x2, .int x3, .int x4, a5], [.ref x0, .int x4], f, m)) zh_X7_endsOf_107 rfl).trans ((zxl_go (x := (109, [.ref x0, a1, .int x2, .int x3, .int x4, a5], [.int x2, .ref x0, .int x4], f, m)) zh_X7_endsOf_108 rfl).trans ((zx_iconst zh_X7_endsOf_109).trans ((zxl_go (x := (111, [.ref x0, a1, .int x2, .int x3, .int x4, a5], [.int (x2 + (I 1)), .ref x0, .int x4], f, m)) zh_X7_endsOf_110 rfl).trans ((zxl_go (x := (112, [.ref x0, a1, .int x2, .int x3, .int x4, a5], [.int x3, .int (x2 + (I 1)), .ref x0, .int x4], f, m)) zh_X7_endsOf_111 rfl).trans ((zx_virtual4 zh_X7_endsOf_112 (Nat.le_of_ble_eq_true rfl) rfl rfl (Nat.le_of_ble_eq_true rfl))))))))
theorem ze_X7_endsOf_115 {d : Nat} {f : zF} {m : zM} {a0 a1 a2 a3 a4 a5 : Value} {y0 y1 : Int32} : zex zTb d zqX7_endsOf 115 [a0, a1, a2, a3, a4, a5] [.int y1, .int y0] f m = some (.inl (some (.int (y0 ||| y1))), f, m) := (zxl_go (x := (116, [a0, a1, a2, a3, a4, a5], [.int (y0 ||| y1)], f, m)) zh_X7_endsOf_115 rfl).trans ((zx_iret zh_X7_endsOf_116 (by first | rfl | decide)))
theorem ze_X7_endsOf_117 {d : Nat} {f : zF} {m : zM} {x0 : Nat} {a1 a5 : Value} {x2 x3 x4 : Int32} : zex zTb d zqX7_endsOf 117 [.ref x0, a1, .int x2, .int x3, .int x4, a5] [] f m = if zisc (f x0) 7 = true then zcal zTb (zrun zTb d 68 [.ref x0, .int (x2 + (I 1)), .int x3] f m) d zqX7_endsOf 125 128 [.ref x0, a1, .int x2, .int x3, .int x4, a5] [.ref x0, .int x4] else none := (zxl_go (x := (119, [.ref x0, a1, .int x2, .int x3, .int x4, a5], [.int x4], f, m)) zh_X7_endsOf_117 rfl).trans ((zxl_go (x := (120, [.ref x0, a1, .int x2, .int x3, .int x4, a5], [.ref x0, .int x4], f, m)) zh_X7_endsOf_119 rfl).trans ((zxl_go (x := (121, [.ref x0, a1, .int x2, .int x3, .int x4, a5], [.ref x0, .ref x0, .int x4], f, m)) zh_X7_endsOf_120 rfl).trans ((zxl_go (x := (122, [.ref x0, a1, .int x2, .int x3, .int x4, a5], [.int x2, .ref x0, .ref x0, .int x4], f, m)) zh_X7_endsOf_121 rfl).trans ((zx_iconst zh_X7_endsOf_122).trans ((zxl_go (x := (124, [.ref x0, a1, .int x2, .int x3, .int x4, a5], [.int (x2 + (I 1)), .ref x0, .ref x0, .int x4], f, m)) zh_X7_endsOf_123 rfl).trans ((zxl_go (x := (125, [.ref x0, a1, .int x2, .int x3, .int x4, a5], [.int x3, .int (x2 + (I 1)), .ref x0, .ref x0, .int x4], f, m)) zh_X7_endsOf_124 rfl).trans ((zx_virtual4 zh_X7_endsOf_125 (Nat.le_of_ble_eq_true rfl) rfl rfl (Nat.le_of_ble_eq_true rfl)))))))))
theorem ze_X7_endsOf_128 {d : Nat} {f : zF} {m : zM} {a0 a1 a3 a5 : Value} {x2 x4 y0 y2 : Int32} {y1 : Nat} : zex zTb d zqX7_endsOf 128 [a0, a1, .int x2, a3, .int x4, a5] [.int y2, .ref y1, .int y0] f m = if zisc (f y1) 7 = true then zcal zTb (zrun zTb d 69 [.ref y1, .int (y2 &&& (x4 ^^^ (I (-1)))), .int x2] f m) d zqX7_endsOf 134 137 [a0, a1, .int x2, a3, .int x4, a5] [.int y0] else none := (zxl_go (x := (130, [a0, a1, .int x2, a3, .int x4, a5], [.int x4, .int y2, .ref y1, .int y0], f, m)) zh_X7_endsOf_128 rfl).trans ((zx_iconst zh_X7_endsOf_130).trans ((zxl_go (x := (132, [a0, a1, .int x2, a3, .int x4, a5], [.int (x4 ^^^ (I (-1))), .int y2, .ref y1, .int y0], f, m)) zh_X7_endsOf_131 rfl).trans ((zxl_go (x := (133, [a0, a1, .int x2, a3, .int x4, a5], [.int (y2 &&& (x4 ^^^ (I (-1)))), .ref y1, .int y0], f, m)) zh_X7_endsOf_132 rfl).trans ((zxl_go (x := (134, [a0, a1, .int x2, a3, .int x4, a5], [.int x2, .int (y2 &&& (x4 ^^^ (I (-1)))), .ref y1, .int y0], f, m)) zh_X7_endsOf_133 rfl).trans ((zx_virtual4 zh_X7_endsOf_134 (Nat.le_of_ble_eq_true rfl) rfl rfl (Nat.le_of_ble_eq_true rfl)))))))
theorem ze_X7_endsOf_137 {d : Nat} {f : zF} {m : zM} {a0 a1 a2 a3 a4 a5 : Value} {y0 y1 : Int32} : zex zTb d zqX7_endsOf 137 [a0, a1, a2, a3, a4, a5] [.int y1, .int y0] f m = some (.inl (some (.int (y0 ||| y1))), f, m) := (zxl_go (x := (138, [a0, a1, a2, a3, a4, a5], [.int (y0 ||| y1)], f, m)) zh_X7_endsOf_137 rfl).trans ((zx_iret zh_X7_endsOf_138 (by first | rfl | decide)))
theorem ze_X7_endsOf_139 {d : Nat} {f : zF} {m : zM} {x0 : Nat} {a1 a4 a5 : Value} {x2 x3 : Int32} : zex zTb d zqX7_endsOf 139 [.ref x0, a1, .int x2, .int x3, a4, a5] [] f m = if zisc (f x0) 7 = true then zcal zTb (zrun zTb d 68 [.ref x0, .int (x2 + (I 1)), .int x3] f m) d zqX7_endsOf 145 148 [.ref x0, a1, .int x2, .int x3, a4, a5] [.ref x0] else none := (zxl_go (x := (140, [.ref x0, a1, .int x2, .int x3, a4, a5], [.ref x0], f, m)) zh_X7_endsOf_139 rfl).trans ((zxl_go (x := (141, [.ref x0, a1, .int x2, .int x3, a4, a5], [.ref x0, .ref x0], f, m)) zh_X7_endsOf_140 rfl).trans ((zxl_go (x := (142, [.ref x0, a1, .int x2, .int x3, a4, a5], [.int x2, .ref x0, .ref x0], f, m)) zh_X7_endsOf_141 rfl).trans ((zx_iconst zh_X7_endsOf_142).trans ((zxl_go (x := (144, [.ref x0, a1, .int x2, .int x3, a4, a5], [.int (x2 + (I 1)), .ref x0, .ref x0], f, m)) zh_X7_endsOf_143 rfl).trans ((zxl_go (x := (145, [.ref x0, a1, .int x2, .int x3, a4, a5], [.int x3, .int (x2 + (I 1)), .ref x0, .ref x0], f, m)) zh_X7_endsOf_144 rfl).trans ((zx_virtual4 zh_X7_endsOf_145 (Nat.le_of_ble_eq_true rfl) rfl rfl (Nat.le_of_ble_eq_true rfl))))))))
theorem ze_X7_endsOf_148 {d : Nat} {f : zF} {m : zM} {a0 a3 a4 a5 : Value} {x1 y0 : Nat} {x2 y1 : Int32} : zex zTb d zqX7_endsOf 148 [a0, .ref x1, .int x2, a3, a4, a5] [.int y1, .ref y0] f m = if zisc (f x1) 2 = true then zcal zTb (zrun zTb d 14 [.ref x1, .int x2] f m) d zqX7_endsOf 150 153 [a0, .ref x1, .int x2, a3, a4, a5] [.int y1, .ref y0] else none := (zxl_go (x := (149, [a0, .ref x1, .int x2, a3, a4, a5], [.ref x1, .int y1, .ref y0], f, m)) zh_X7_endsOf_148 rfl).trans ((zxl_go (x := (150, [a0, .ref x1, .int x2, a3, a4, a5], [.int x2, .ref x1, .int y1, .ref y0], f, m)) zh_X7_endsOf_149 rfl).trans ((zx_virtual4 zh_X7_endsOf_150 (Nat.le_of_ble_eq_true rfl) rfl rfl (Nat.le_of_ble_eq_true rfl))))
theorem ze_X7_endsOf_153 {d : Nat} {f : zF} {m : zM} {a0 a1 a2 a3 a4 a5 : Value} {y0 : Nat} {y1 y2 : Int32} : zex zTb d zqX7_endsOf 153 [a0, a1, a2, a3, a4, a5] [.int y2, .int y1, .ref y0] f m = if zisc (f y0) 7 = true then zcal zTb (zrun zTb d 69 [.ref y0, .int y1, .int y2] f m) d zqX7_endsOf 153 156 [a0, a1, a2, a3, a4, a5] [] else none := (zx_virtual4 zh_X7_endsOf_153 (Nat.le_of_ble_eq_true rfl) rfl rfl (Nat.le_of_ble_eq_true rfl))
theorem ze_X7_endsOf_156 {d : Nat} {f : zF} {m : zM} {a0 a1 a2 a3 a4 a5 : Value} {y0 : Int32} : zex zTb d zqX7_endsOf 156 [a0, a1, a2, a3, a4, a5] [.int y0] f m = some (.inl (some (.int y0)), f, m) := (zx_iret zh_X7_endsOf_156 (by first | rfl | decide))
theorem ze_X7_endsOf_157 {d : Nat} {f : zF} {m : zM} {x0 : Nat} {a1 a4 a5 : Value} {x2 x3 : Int32} : zex zTb d zqX7_endsOf 157 [.ref x0, a1, .int x2, .int x3, a4, a5] [] f m = if zisc (f x0) 7 = true then zcal zTb (zrun zTb d 68 [.ref x0, .int (x2 + (I 1)), .int x3] f m) d zqX7_endsOf 162 165 [.ref x0, a1, .int x2, .int x3, a4, a5] [] else none := (zxl_go (x := (158, [.ref x0, a1, .int x2, .int x3, a4, a5], [.ref x0], f, m)) zh_X7_endsOf_157 rfl).trans ((zxl_go (x := (159, [.ref x0, a1, .int x2, .int x3, a4, a5], [.int x2, .ref x0], f, m)) zh_X7_endsOf_158 rfl).trans ((zx_iconst zh_X7_endsOf_159).trans ((zxl_go (x := (161, [.ref x0, a1, .int x2, .int x3, a4, a5], [.int (x2 + (I 1)), .ref x0], f, m)) zh_X7_endsOf_160 rfl).trans ((zxl_go (x := (162, [.ref x0, a1, .int x2, .int x3, a4, a5], [.int x3, .int (x2 + (I 1)), .ref x0], f, m)) zh_X7_endsOf_161 rfl).trans ((zx_virtual4 zh_X7_endsOf_162 (Nat.le_of_ble_eq_true rfl) rfl rfl (Nat.le_of_ble_eq_true rfl)))))))
theorem ze_X7_endsOf_165 {d : Nat} {f : zF} {m : zM} {x0 x1 : Nat} {x2 y0 : Int32} {a3 a4 a5 : Value} : zex zTb d zqX7_endsOf 165 [.ref x0, .ref x1, .int x2, a3, a4, a5] [.int y0] f m = if zisc (f x1) 2 = true then zcal zTb (zrun zTb d 14 [.ref x1, .int x2] f m) d zqX7_endsOf 168 171 [.ref x0, .ref x1, .int x2, a3, a4, a5] [.ref x0, .int y0] else none := (zxl_go (x := (166, [.ref x0, .ref x1, .int x2, a3, a4, a5], [.ref x0, .int y0], f, m)) zh_X7_endsOf_165 rfl).trans ((zxl_go (x := (167, [.ref x0, .ref x1, .int x2, a3, a4, a5], [.ref x1, .ref x0, .int y0], f, m)) zh_X7_endsOf_166 rfl).trans ((zxl_go (x := (168, [.ref x0, .ref x1, .int x2, a3, a4, a5], [.int x2, .ref x1, .ref x0, .int y0], f, m)) zh_X7_endsOf_167 rfl).trans ((zx_virtual4 zh_X7_endsOf_168 (Nat.le_of_ble_eq_true rfl) rfl rfl (Nat.le_of_ble_eq_true rfl)))))
theorem ze_X7_endsOf_171 {d : Nat} {f : zF} {m : zM} {a0 a1 a2 a4 a5 : Value} {x3 y0 y2 : Int32} {y1 : Nat} : zex zTb d zqX7_endsOf 171 [a0, a1, a2, .int x3, a4, a5] [.int y2, .ref y1, .int y0] f m = if zisc (f y1) 7 = true then zcal zTb (zrun zTb d 68 [.ref y1, .int y2, .int x3] f m) d zqX7_endsOf 172 175 [a0, a1, a2, .int x3, a4, a5] [.int y0] else none := (zxl_go (x := (172, [a0, a1, a2, .int x3, a4, a5], [.int x3, .int y2, .ref y1, .int y0], f, m)) zh_X7_endsOf_171 rfl).trans ((zx_virtual4 zh_X7_endsOf_172 (Nat.le_of_ble_eq_true rfl) rfl rfl (Nat.le_of_ble_eq_true rfl)))
theorem ze_X7_endsOf_175 {d : Nat} {f : zF} {m : zM} {a0 a1 a2 a3 a4 a5 : Value} {y0 y1 : Int32} : zex zTb d zqX7_endsOf 175 [a0, a1, a2, a3, a4, a5] [.int y1, .int y0] f m = some (.inl (some (.int (y0 ||| y1))), f, m) := (zxl_go (x := (176, [a0, a1, a2, a3, a4, a5], [.int (y0 ||| y1)], f, m)) zh_X7_endsOf_175 rfl).trans ((zx_iret zh_X7_endsOf_176 (by first | rfl | decide)))
-- X7_endsFrom
theorem zh_X7_endsFrom_0 : zfe zqX7_endsFrom.i 0 = some (0, .iload_n 1, 1, 0, 0, 0) := rfl
theorem zh_X7_endsFrom_1 : zfe zqX7_endsFrom.i 1 = some (1, .ifCond .lt 26, 3, 0, 0, 0) := rfl
theorem zh_X7_endsFrom_4 : zfe zqX7_endsFrom.i 4 = some (4, .iload_n 1, 1, 0, 0, 0) := rfl
theorem zh_X7_endsFrom_5 : zfe zqX7_endsFrom.i 5 = some (5, .aload_n 0, 1, 0, 0, 0) := rfl
theorem zh_X7_endsFrom_6 : zfe zqX7_endsFrom.i 6 = some (6, .getfield 17, 3, 7, 2, 0) := rfl
theorem zh_X7_endsFrom_9 : zfe zqX7_endsFrom.i 9 = some (9, .arraylength, 1, 0, 0, 0) := rfl
theorem zh_X7_endsFrom_10 : zfe zqX7_endsFrom.i 10 = some (10, .if_icmp .ge 17, 3, 0, 0, 0) := rfl
theorem zh_X7_endsFrom_13 : zfe zqX7_endsFrom.i 13 = some (13, .iload_n 2, 1, 0, 0, 0) := rfl
theorem zh_X7_endsFrom_14 : zfe zqX7_endsFrom.i 14 = some (14, .ifCond .lt 13, 3, 0, 0, 0) := rfl
theorem zh_X7_endsFrom_17 : zfe zqX7_endsFrom.i 17 = some (17, .iload_n 2, 1, 0, 0, 0) := rfl
theorem zh_X7_endsFrom_18 : zfe zqX7_endsFrom.i 18 = some (18, .bipush 6, 2, 0, 0, 0) := rfl
theorem zh_X7_endsFrom_20 : zfe zqX7_endsFrom.i 20 = some (20, .if_icmp .gt 7, 3, 0, 0, 0) := rfl
theorem zh_X7_endsFrom_23 : zfe zqX7_endsFrom.i 23 = some (23, .iconst 1, 1, 0, 0, 0) := rfl
theorem zh_X7_endsFrom_24 : zfe zqX7_endsFrom.i 24 = some (24, .goto 4, 3, 0, 0, 0) := rfl
theorem zh_X7_endsFrom_27 : zfe zqX7_endsFrom.i 27 = some (27, .iconst 0, 1, 0, 0, 0) := rfl
theorem zh_X7_endsFrom_28 : zfe zqX7_endsFrom.i 28 = some (28, .istore_n 3, 1, 0, 0, 0) := rfl
theorem zh_X7_endsFrom_29 : zfe zqX7_endsFrom.i 29 = some (29, .iload_n 3, 1, 0, 0, 0) := rfl
theorem zh_X7_endsFrom_30 : zfe zqX7_endsFrom.i 30 = some (30, .ifCond .eq 14, 3, 0, 0, 0) := rfl
theorem zh_X7_endsFrom_33 : zfe zqX7_endsFrom.i 33 = some (33, .aload_n 0, 1, 0, 0, 0) := rfl
theorem zh_X7_endsFrom_34 : zfe zqX7_endsFrom.i 34 = some (34, .getfield 17, 3, 7, 2, 0) := rfl
theorem zh_X7_endsFrom_37 : zfe zqX7_endsFrom.i 37 = some (37, .iload_n 1, 1, 0, 0, 0) := rfl
theorem zh_X7_endsFrom_38 : zfe zqX7_endsFrom.i 38 = some (38, .aaload, 1, 0, 0, 0) := rfl
theorem zh_X7_endsFrom_39 : zfe zqX7_endsFrom.i 39 = some (39, .iload_n 2, 1, 0, 0, 0) := rfl
theorem zh_X7_endsFrom_40 : zfe zqX7_endsFrom.i 40 = some (40, .iaload, 1, 0, 0, 0) := rfl
theorem zh_X7_endsFrom_41 : zfe zqX7_endsFrom.i 41 = some (41, .goto 4, 3, 0, 0, 0) := rfl
theorem zh_X7_endsFrom_44 : zfe zqX7_endsFrom.i 44 = some (44, .iconst 0, 1, 0, 0, 0) := rfl
theorem zh_X7_endsFrom_45 : zfe zqX7_endsFrom.i 45 = some (45, .ireturn, 1, 0, 0, 0) := rfl
theorem ze_X7_endsFrom_0 {d : Nat} {f : zF} {m : zM} {a0 a2 a3 : Value} {x1 : Int32} : zex zTb d zqX7_endsFrom 0 [a0, .int x1, a2, a3] [] f m = if zc1 .lt x1 = true then zex zTb d zqX7_endsFrom 27 [a0, .int x1, a2, a3] [] f m else zex zTb d zqX7_endsFrom 4 [a0, .int x1, a2, a3] [] f m := (zxl_go (x := (1, [a0, .int x1, a2, a3], [.int x1], f, m)) zh_X7_endsFrom_0 rfl).trans ((zx_if (tgt := 27) zh_X7_endsFrom_1 rfl))
theorem ze_X7_endsFrom_4 {d : Nat} {f : zF} {m : zM} {x0 : Nat} {x1 : Int32} {a2 a3 : Value} : zex zTb d zqX7_endsFrom 4 [.ref x0, .int x1, a2, a3] [] f m = if zco (f x0) 7 2 = true then zex zTb d zqX7_endsFrom 9 [.ref x0, .int x1, a2, a3] [zcf (f x0) 2, .int x1] f m else none := (zxl_go (x := (5, [.ref x0, .int x1, a2, a3], [.int x1], f, m)) zh_X7_endsFrom_4 rfl).trans ((zxl_go (x := (6, [.ref x0, .int x1, a2, a3], [.ref x0, .int x1], f, m)) zh_X7_endsFrom_5 rfl).trans ((zx_getfield zh_X7_endsFrom_6)))
theorem ze_X7_endsFrom_9 {d : Nat} {f : zF} {m : zM} {a0 a1 a2 a3 : Value} {y0 : Int32} {y1 : Nat} : zex zTb d zqX7_endsFrom 9 [a0, a1, a2, a3] [.ref y1, .int y0] f m = if zisa (f y1) = true then zex zTb d zqX7_endsFrom 10 [a0, a1, a2, a3] [.int (Int32.ofNat (zln (f y1))), .int y0] f m else none := (zx_alen zh_X7_endsFrom_9)
theorem ze_X7_endsFrom_10 {d : Nat} {f : zF} {m : zM} {a0 a1 a2 a3 : Value} {y0 y1 : Int32} : zex zTb d zqX7_endsFrom 10 [a0, a1, a2, a3] [.int y1, .int y0] f m = if zc2 .ge y0 y1 = true then zex zTb d zqX7_endsFrom 27 [a0, a1, a2, a3] [] f m else zex zTb d zqX7_endsFrom 13 [a0, a1, a2, a3] [] f m := (zx_icmp (tgt := 27) zh_X7_endsFrom_10 rfl)
theorem ze_X7_endsFrom_13 {d : Nat} {f : zF} {m : zM} {a0 a1 a3 : Value} {x2 : Int32} : zex zTb d zqX7_endsFrom 13 [a0, a1, .int x2, a3] [] f m = if zc1 .lt x2 = true then zex zTb d zqX7_endsFrom 27 [a0, a1, .int x2, a3] [] f m else zex zTb d zqX7_endsFrom 17 [a0, a1, .int x2, a3] [] f m := (zxl_go (x := (14, [a0, a1, .int x2, a3], [.int x2], f, m)) zh_X7_endsFrom_13 rfl).trans ((zx_if (tgt := 27) zh_X7_endsFrom_14 rfl))
theorem ze_X7_endsFrom_17 {d : Nat} {f : zF} {m : zM} {a0 a1 a3 : Value} {x2 : Int32} : zex zTb d zqX7_endsFrom 17 [a0, a1, .int x2, a3] [] f m = if zc2 .gt x2 (I 6) = true then zex zTb d zqX7_endsFrom 27 [a0, a1, .int x2, a3] [] f m else zex zTb d zqX7_endsFrom 23 [a0, a1, .int x2, a3] [] f m := (zxl_go (x := (18, [a0, a1, .int x2, a3], [.int x2], f, m)) zh_X7_endsFrom_17 rfl).trans ((zx_bipush zh_X7_endsFrom_18 (by decide)).trans ((zx_icmp (tgt := 27) zh_X7_endsFrom_20 rfl)))
theorem ze_X7_endsFrom_23 {d : Nat} {f : zF} {m : zM} {a0 a1 a2 a3 : Value} : zex zTb d zqX7_endsFrom 23 [a0, a1, a2, a3] [] f m = if zc1 .eq (I 1) = true then zex zTb d zqX7_endsFrom 44 [a0, a1, (zclr a2), .int (I 1)] [] f m else zex zTb d zqX7_endsFrom 33 [a0, a1, (zclr a2), .int (I 1)] [] f m := (zx_iconst zh_X7_endsFrom_23).trans ((zx_goto zh_X7_endsFrom_24 rfl).trans ((zxl_go (x := (29, [a0, a1, (zclr a2), .int (I 1)], [], f, m)) zh_X7_endsFrom_28 rfl).trans ((zxl_go (x := (30, [a0, a1, (zclr a2), .int (I 1)], [.int (I 1)], f, m)) zh_X7_endsFrom_29 rfl).trans ((zx_if (tgt := 44) zh_X7_endsFrom_30 rfl)))))
theorem ze_X7_endsFrom_27 {d : Nat} {f : zF} {m : zM} {a0 a1 a2 a3 : Value} : zex zTb d zqX7_endsFrom 27 [a0, a1, a2, a3] [] f m = if zc1 .eq (I 0) = true then zex zTb d zqX7_endsFrom 44 [a0, a1, (zclr a2), .int (I 0)] [] f m else zex zTb d zqX7_endsFrom 33 [a0, a1, (zclr a2), .int (I 0)] [] f m := (zx_iconst zh_X7_endsFrom_27).trans ((zxl_go (x := (29, [a0, a1, (zclr a2), .int (I 0)], [], f, m)) zh_X7_endsFrom_28 rfl).trans ((zxl_go (x := (30, [a0, a1, (zclr a2), .int (I 0)], [.int (I 0)], f, m)) zh_X7_endsFrom_29 rfl).trans ((zx_if (tgt := 44) zh_X7_endsFrom_30 rfl))))
theorem ze_X7_endsFrom_33 {d : Nat} {f : zF} {m : zM} {x0 : Nat} {a1 a2 a3 : Value} : zex zTb d zqX7_endsFrom 33 [.ref x0, a1, a2, a3] [] f m = if zco (f x0) 7 2 = true then zex zTb d zqX7_endsFrom 37 [.ref x0, a1, a2, a3] [zcf (f x0) 2] f m else none := (zxl_go (x := (34, [.ref x0, a1, a2, a3], [.ref x0], f, m)) zh_X7_endsFrom_33 rfl).trans ((zx_getfield zh_X7_endsFrom_34))
theorem ze_X7_endsFrom_37 {d : Nat} {f : zF} {m : zM} {a0 a2 a3 : Value} {x1 : Int32} {y0 : Nat} : zex zTb d zqX7_endsFrom 37 [a0, .int x1, a2, a3] [.ref y0] f m = if zrq (f y0) x1 = true then zex zTb d zqX7_endsFrom 39 [a0, .int x1, a2, a3] [.ref (zgq (f y0) x1.toNatClampNeg)] f m else none := (zxl_go (x := (38, [a0, .int x1, a2, a3], [.int x1, .ref y0], f, m)) zh_X7_endsFrom_37 rfl).trans ((zx_aaload zh_X7_endsFrom_38))
theorem ze_X7_endsFrom_39 {d : Nat} {f : zF} {m : zM} {a0 a1 a3 : Value} {x2 : Int32} {y0 : Nat} : zex zTb d zqX7_endsFrom 39 [a0, a1, .int x2, a3] [.ref y0] f m = if zr8 (f y0) x2 = true then zex zTb d zqX7_endsFrom 41 [a0, a1, .int x2, a3] [.int (zgi (f y0) x2.toNatClampNeg)] f m else none := (zxl_go (x := (40, [a0, a1, .int x2, a3], [.int x2, .ref y0], f, m)) zh_X7_endsFrom_39 rfl).trans ((zx_iaload zh_X7_endsFrom_40))
theorem ze_X7_endsFrom_41 {d : Nat} {f : zF} {m : zM} {a0 a1 a2 a3 : Value} {y0 : Int32} : zex zTb d zqX7_endsFrom 41 [a0, a1, a2, a3] [.int y0] f m = some (.inl (some (.int y0)), f, m) := (zx_goto zh_X7_endsFrom_41 rfl).trans ((zx_iret zh_X7_endsFrom_45 (by first | rfl | decide)))
theorem ze_X7_endsFrom_44 {d : Nat} {f : zF} {m : zM} {a0 a1 a2 a3 : Value} : zex zTb d zqX7_endsFrom 44 [a0, a1, a2, a3] [] f m = some (.inl (some (.int (I 0))), f, m) := (zx_iconst zh_X7_endsFrom_44).trans ((zx_iret zh_X7_endsFrom_45 (by first | rfl | decide)))
-- X7_endsBehind
theorem zh_X7_endsBehind_0 : zfe zqX7_endsBehind.i 0 = some (0, .iconst 0, 1, 0, 0, 0) := rfl
theorem zh_X7_endsBehind_1 : zfe zqX7_endsBehind.i 1 = some (1, .istore_n 3, 1, 0, 0, 0) := rfl
theorem zh_X7_endsBehind_2 : zfe zqX7_endsBehind.i 2 = some (2, .iconst 0, 1, 0, 0, 0) := rfl
theorem zh_X7_endsBehind_3 : zfe zqX7_endsBehind.i 3 = some (3, .istore 4, 2, 0, 0, 0) := rfl
theorem zh_X7_endsBehind_5 : zfe zqX7_endsBehind.i 5 = some (5, .iload 4, 2, 0, 0, 0) := rfl
theorem zh_X7_endsBehind_7 : zfe zqX7_endsBehind.i 7 = some (7, .aload_n 0, 1, 0, 0, 0) := rfl
theorem zh_X7_endsBehind_8 : zfe zqX7_endsBehind.i 8 = some (8, .getfield 30, 3, 7, 1, 0) := rfl
theorem zh_X7_endsBehind_11 : zfe zqX7_endsBehind.i 11 = some (11, .if_icmp .gt 28, 3, 0, 0, 0) := rfl
theorem zh_X7_endsBehind_14 : zfe zqX7_endsBehind.i 14 = some (14, .iload_n 1, 1, 0, 0, 0) := rfl
theorem zh_X7_endsBehind_15 : zfe zqX7_endsBehind.i 15 = some (15, .iload 4, 2, 0, 0, 0) := rfl
theorem zh_X7_endsBehind_17 : zfe zqX7_endsBehind.i 17 = some (17, .iushr, 1, 0, 0, 0) := rfl
theorem zh_X7_endsBehind_18 : zfe zqX7_endsBehind.i 18 = some (18, .iconst 1, 1, 0, 0, 0) := rfl
theorem zh_X7_endsBehind_19 : zfe zqX7_endsBehind.i 19 = some (19, .iand, 1, 0, 0, 0) := rfl
theorem zh_X7_endsBehind_20 : zfe zqX7_endsBehind.i 20 = some (20, .ifCond .eq 13, 3, 0, 0, 0) := rfl
theorem zh_X7_endsBehind_23 : zfe zqX7_endsBehind.i 23 = some (23, .iload_n 3, 1, 0, 0, 0) := rfl
theorem zh_X7_endsBehind_24 : zfe zqX7_endsBehind.i 24 = some (24, .aload_n 0, 1, 0, 0, 0) := rfl
theorem zh_X7_endsBehind_25 : zfe zqX7_endsBehind.i 25 = some (25, .iload_n 2, 1, 0, 0, 0) := rfl
theorem zh_X7_endsBehind_26 : zfe zqX7_endsBehind.i 26 = some (26, .iload 4, 2, 0, 0, 0) := rfl
theorem zh_X7_endsBehind_28 : zfe zqX7_endsBehind.i 28 = some (28, .invokevirtual 52, 3, 68, 3, 7) := rfl
theorem zh_X7_endsBehind_31 : zfe zqX7_endsBehind.i 31 = some (31, .ior, 1, 0, 0, 0) := rfl
theorem zh_X7_endsBehind_32 : zfe zqX7_endsBehind.i 32 = some (32, .istore_n 3, 1, 0, 0, 0) := rfl
theorem zh_X7_endsBehind_33 : zfe zqX7_endsBehind.i 33 = some (33, .iinc 4 1, 3, 0, 0, 0) := rfl
theorem zh_X7_endsBehind_36 : zfe zqX7_endsBehind.i 36 = some (36, .goto (-31), 3, 0, 0, 0) := rfl
theorem zh_X7_endsBehind_39 : zfe zqX7_endsBehind.i 39 = some (39, .iload_n 3, 1, 0, 0, 0) := rfl
theorem zh_X7_endsBehind_40 : zfe zqX7_endsBehind.i 40 = some (40, .ireturn, 1, 0, 0, 0) := rfl
theorem ze_X7_endsBehind_0 {d : Nat} {f : zF} {m : zM} {a0 a1 a2 a3 a4 : Value} : zex zTb d zqX7_endsBehind 0 [a0, a1, a2, a3, a4] [] f m = zex zTb d zqX7_endsBehind 5 [a0, a1, (zclr a2), .int (I 0), .int (I 0)] [] f m := (zx_iconst zh_X7_endsBehind_0).trans ((zxl_go (x := (2, [a0, a1, (zclr a2), .int (I 0), a4], [], f, m)) zh_X7_endsBehind_1 rfl).trans ((zx_iconst zh_X7_endsBehind_2).trans ((zxl_go (x := (5, [a0, a1, (zclr a2), .int (I 0), .int (I 0)], [], f, m)) zh_X7_endsBehind_3 rfl))))
theorem ze_X7_endsBehind_5 {d : Nat} {f : zF} {m : zM} {x0 : Nat} {a1 a2 a3 : Value} {x4 : Int32} : zex zTb d zqX7_endsBehind 5 [.ref x0, a1, a2, a3, .int x4] [] f m = if zco (f x0) 7 1 = true then zex zTb d zqX7_endsBehind 11 [.ref x0, a1, a2, a3, .int x4] [zcf (f x0) 1, .int x4] f m else none := (zxl_go (x := (7, [.ref x0, a1, a2, a3, .int x4], [.int x4], f, m)) zh_X7_endsBehind_5 rfl).trans ((zxl_go (x := (8, [.ref x0, a1, a2, a3, .int x4], [.ref x0, .int x4], f, m)) zh_X7_endsBehind_7 rfl).trans ((zx_getfield zh_X7_endsBehind_8)))
theorem ze_X7_endsBehind_11 {d : Nat} {f : zF} {m : zM} {a0 a1 a2 a3 a4 : Value} {y0 y1 : Int32} : zex zTb d zqX7_endsBehind 11 [a0, a1, a2, a3, a4] [.int y1, .int y0] f m = if zc2 .gt y0 y1 = true then zex zTb d zqX7_endsBehind 39 [a0, a1, a2, a3, a4] [] f m else zex zTb d zqX7_endsBehind 14 [a0, a1, a2, a3, a4] [] f m := (zx_icmp (tgt := 39) zh_X7_endsBehind_11 rfl)
theorem ze_X7_endsBehind_14 {d : Nat} {f : zF} {m : zM} {a0 a2 a3 : Value} {x1 x4 : Int32} : zex zTb d zqX7_endsBehind 14 [a0, .int x1, a2, a3, .int x4] [] f m = if zc1 .eq (((x1.toUInt32 >>> (x4.toUInt32 &&& Int32.toUInt32 31)).toInt32) &&& (I 1)) = true then zex zTb d zqX7_endsBehind 33 [a0, .int x1, a2, a3, .int x4] [] f m else zex zTb d zqX7_endsBehind 23 [a0, .int x1, a2, a3, .int x4] [] f m := (zxl_go (x := (15, [a0, .int x1, a2, a3, .int x4], [.int x1], f, m)) zh_X7_endsBehind_14 rfl).trans ((zxl_go (x := (17, [a0, .int x1, a2, a3, .int x4], [.int x4, .int x1], f, m)) zh_X7_endsBehind_15 rfl).trans ((zxl_go (x := (18, [a0, .int x1, a2, a3, .int x4], [.int ((x1.toUInt32 >>> (x4.toUInt32 &&& Int32.toUInt32 31)).toInt32)], f, m)) zh_X7_endsBehind_17 rfl).trans ((zx_iconst zh_X7_endsBehind_18).trans ((zxl_go (x := (20, [a0, .int x1, a2, a3, .int x4], [.int (((x1.toUInt32 >>> (x4.toUInt32 &&& Int32.toUInt32 31)).toInt32) &&& (I 1))], f, m)) zh_X7_endsBehind_19 rfl).trans ((zx_if (tgt := 33) zh_X7_endsBehind_20 rfl))))))
theorem ze_X7_endsBehind_23 {d : Nat} {f : zF} {m : zM} {x0 : Nat} {a1 : Value} {x2 x3 x4 : Int32} : zex zTb d zqX7_endsBehind 23 [.ref x0, a1, .int x2, .int x3, .int x4] [] f m = if zisc (f x0) 7 = true then zcal zTb (zrun zTb d 68 [.ref x0, .int x2, .int x4] f m) d zqX7_endsBehind 28 31 [.ref x0, a1, .int x2, .int x3, .int x4] [.int x3] else none := (zxl_go (x := (24, [.ref x0, a1, .int x2, .int x3, .int x4], [.int x3], f, m)) zh_X7_endsBehind_23 rfl).trans ((zxl_go (x := (25, [.ref x0, a1, .int x2, .int x3, .int x4], [.ref x0, .int x3], f, m)) zh_X7_endsBehind_24 rfl).trans ((zxl_go (x := (26, [.ref x0, a1, .int x2, .int x3, .int x4], [.int x2, .ref x0, .int x3], f, m)) zh_X7_endsBehind_25 rfl).trans ((zxl_go (x := (28, [.ref x0, a1, .int x2, .int x3, .int x4], [.int x4, .int x2, .ref x0, .int x3], f, m)) zh_X7_endsBehind_26 rfl).trans ((zx_virtual4 zh_X7_endsBehind_28 (Nat.le_of_ble_eq_true rfl) rfl rfl (Nat.le_of_ble_eq_true rfl))))))
theorem ze_X7_endsBehind_31 {d : Nat} {f : zF} {m : zM} {a0 a1 a2 a3 : Value} {x4 y0 y1 : Int32} : zex zTb d zqX7_endsBehind 31 [a0, a1, a2, a3, .int x4] [.int y1, .int y0] f m = zex zTb d zqX7_endsBehind 5 [a0, a1, (zclr a2), .int (y0 ||| y1), .int (x4 + I 1)] [] f m := (zxl_go (x := (32, [a0, a1, a2, a3, .int x4], [.int (y0 ||| y1)], f, m)) zh_X7_endsBehind_31 rfl).trans ((zxl_go (x := (33, [a0, a1, (zclr a2), .int (y0 ||| y1), .int x4], [], f, m)) zh_X7_endsBehind_32 rfl).trans ((zxl_go (x := (36, [a0, a1, (zclr a2), .int (y0 ||| y1), .int (x4 + I 1)], [], f, m)) zh_X7_endsBehind_33 rfl).trans ((zx_goto zh_X7_endsBehind_36 rfl))))
theorem ze_X7_endsBehind_33 {d : Nat} {f : zF} {m : zM} {a0 a1 a2 a3 : Value} {x4 : Int32} : zex zTb d zqX7_endsBehind 33 [a0, a1, a2, a3, .int x4] [] f m = zex zTb d zqX7_endsBehind 5 [a0, a1, a2, (zclr a3), .int (x4 + I 1)] [] f m := (zxl_go (x := (36, [a0, a1, a2, (zclr a3), .int (x4 + I 1)], [], f, m)) zh_X7_endsBehind_33 rfl).trans ((zx_goto zh_X7_endsBehind_36 rfl))
theorem ze_X7_endsBehind_39 {d : Nat} {f : zF} {m : zM} {a0 a1 a2 a4 : Value} {x3 : Int32} : zex zTb d zqX7_endsBehind 39 [a0, a1, a2, .int x3, a4] [] f m = some (.inl (some (.int x3)), f, m) := (zxl_go (x := (40, [a0, a1, a2, .int x3, a4], [.int x3], f, m)) zh_X7_endsBehind_39 rfl).trans ((zx_iret zh_X7_endsBehind_40 (by first | rfl | decide)))
-- X8_isLetter
theorem zh_X8_isLetter_0 : zfe zqX8_isLetter.i 0 = some (0, .iload_n 0, 1, 0, 0, 0) := rfl
theorem zh_X8_isLetter_1 : zfe zqX8_isLetter.i 1 = some (1, .bipush 97, 2, 0, 0, 0) := rfl
theorem zh_X8_isLetter_3 : zfe zqX8_isLetter.i 3 = some (3, .if_icmp .lt 13, 3, 0, 0, 0) := rfl
theorem zh_X8_isLetter_6 : zfe zqX8_isLetter.i 6 = some (6, .iload_n 0, 1, 0, 0, 0) := rfl
theorem zh_X8_isLetter_7 : zfe zqX8_isLetter.i 7 = some (7, .bipush 99, 2, 0, 0, 0) := rfl
theorem zh_X8_isLetter_9 : zfe zqX8_isLetter.i 9 = some (9, .if_icmp .gt 7, 3, 0, 0, 0) := rfl
theorem zh_X8_isLetter_12 : zfe zqX8_isLetter.i 12 = some (12, .iconst 1, 1, 0, 0, 0) := rfl
theorem zh_X8_isLetter_13 : zfe zqX8_isLetter.i 13 = some (13, .goto 4, 3, 0, 0, 0) := rfl
theorem zh_X8_isLetter_16 : zfe zqX8_isLetter.i 16 = some (16, .iconst 0, 1, 0, 0, 0) := rfl
theorem zh_X8_isLetter_17 : zfe zqX8_isLetter.i 17 = some (17, .ireturn, 1, 0, 0, 0) := rfl
theorem ze_X8_isLetter_0 {d : Nat} {f : zF} {m : zM} {x0 : Int32} : zex zTb d zqX8_isLetter 0 [.int x0] [] f m = if zc2 .lt x0 (I 97) = true then zex zTb d zqX8_isLetter 16 [.int x0] [] f m else zex zTb d zqX8_isLetter 6 [.int x0] [] f m := (zxl_go (x := (1, [.int x0], [.int x0], f, m)) zh_X8_isLetter_0 rfl).trans ((zx_bipush zh_X8_isLetter_1 (by decide)).trans ((zx_icmp (tgt := 16) zh_X8_isLetter_3 rfl)))
theorem ze_X8_isLetter_6 {d : Nat} {f : zF} {m : zM} {x0 : Int32} : zex zTb d zqX8_isLetter 6 [.int x0] [] f m = if zc2 .gt x0 (I 99) = true then zex zTb d zqX8_isLetter 16 [.int x0] [] f m else zex zTb d zqX8_isLetter 12 [.int x0] [] f m := (zxl_go (x := (7, [.int x0], [.int x0], f, m)) zh_X8_isLetter_6 rfl).trans ((zx_bipush zh_X8_isLetter_7 (by decide)).trans ((zx_icmp (tgt := 16) zh_X8_isLetter_9 rfl)))
theorem ze_X8_isLetter_12 {d : Nat} {f : zF} {m : zM} {a0 : Value} : zex zTb d zqX8_isLetter 12 [a0] [] f m = some (.inl (some (.int (I 1))), f, m) := (zx_iconst zh_X8_isLetter_12).trans ((zx_goto zh_X8_isLetter_13 rfl).trans ((zx_iret zh_X8_isLetter_17 (by first | rfl | decide))))
theorem ze_X8_isLetter_16 {d : Nat} {f : zF} {m : zM} {a0 : Value} : zex zTb d zqX8_isLetter 16 [a0] [] f m = some (.inl (some (.int (I 0))), f, m) := (zx_iconst zh_X8_isLetter_16).trans ((zx_iret zh_X8_isLetter_17 (by first | rfl | decide)))
-- X8_isWord
theorem zh_X8_isWord_0 : zfe zqX8_isWord.i 0 = some (0, .iconst 0, 1, 0, 0, 0) := rfl
theorem zh_X8_isWord_1 : zfe zqX8_isWord.i 1 = some (1, .istore_n 2, 1, 0, 0, 0) := rfl
theorem zh_X8_isWord_2 : zfe zqX8_isWord.i 2 = some (2, .iconst 0, 1, 0, 0, 0) := rfl
theorem zh_X8_isWord_3 : zfe zqX8_isWord.i 3 = some (3, .istore_n 3, 1, 0, 0, 0) := rfl
theorem zh_X8_isWord_4 : zfe zqX8_isWord.i 4 = some (4, .iload_n 3, 1, 0, 0, 0) := rfl
theorem zh_X8_isWord_5 : zfe zqX8_isWord.i 5 = some (5, .bipush 64, 2, 0, 0, 0) := rfl
theorem zh_X8_isWord_7 : zfe zqX8_isWord.i 7 = some (7, .if_icmp .ge 47, 3, 0, 0, 0) := rfl
theorem zh_X8_isWord_10 : zfe zqX8_isWord.i 10 = some (10, .lload_n 0, 1, 0, 0, 0) := rfl
theorem zh_X8_isWord_11 : zfe zqX8_isWord.i 11 = some (11, .iload_n 3, 1, 0, 0, 0) := rfl
theorem zh_X8_isWord_12 : zfe zqX8_isWord.i 12 = some (12, .lushr, 1, 0, 0, 0) := rfl
theorem zh_X8_isWord_13 : zfe zqX8_isWord.i 13 = some (13, .ldc2_w 9, 3, 255, 0, 0) := rfl
theorem zh_X8_isWord_16 : zfe zqX8_isWord.i 16 = some (16, .land, 1, 0, 0, 0) := rfl
theorem zh_X8_isWord_17 : zfe zqX8_isWord.i 17 = some (17, .l2i, 1, 0, 0, 0) := rfl
theorem zh_X8_isWord_18 : zfe zqX8_isWord.i 18 = some (18, .istore 4, 2, 0, 0, 0) := rfl
theorem zh_X8_isWord_20 : zfe zqX8_isWord.i 20 = some (20, .iload 4, 2, 0, 0, 0) := rfl
theorem zh_X8_isWord_22 : zfe zqX8_isWord.i 22 = some (22, .ifCond .eq 13, 3, 0, 0, 0) := rfl
theorem zh_X8_isWord_25 : zfe zqX8_isWord.i 25 = some (25, .iload 4, 2, 0, 0, 0) := rfl
theorem zh_X8_isWord_27 : zfe zqX8_isWord.i 27 = some (27, .invokestatic 11, 3, 70, 1, 0) := rfl
theorem zh_X8_isWord_30 : zfe zqX8_isWord.i 30 = some (30, .ifCond .ne 5, 3, 0, 0, 0) := rfl
theorem zh_X8_isWord_33 : zfe zqX8_isWord.i 33 = some (33, .iconst 0, 1, 0, 0, 0) := rfl
theorem zh_X8_isWord_34 : zfe zqX8_isWord.i 34 = some (34, .ireturn, 1, 0, 0, 0) := rfl
theorem zh_X8_isWord_35 : zfe zqX8_isWord.i 35 = some (35, .iload_n 2, 1, 0, 0, 0) := rfl
theorem zh_X8_isWord_36 : zfe zqX8_isWord.i 36 = some (36, .iload 4, 2, 0, 0, 0) := rfl
theorem zh_X8_isWord_38 : zfe zqX8_isWord.i 38 = some (38, .ifCond .eq 7, 3, 0, 0, 0) := rfl
theorem zh_X8_isWord_41 : zfe zqX8_isWord.i 41 = some (41, .iconst 1, 1, 0, 0, 0) := rfl
theorem zh_X8_isWord_42 : zfe zqX8_isWord.i 42 = some (42, .goto 4, 3, 0, 0, 0) := rfl
theorem zh_X8_isWord_45 : zfe zqX8_isWord.i 45 = some (45, .iconst 0, 1, 0, 0, 0) := rfl
theorem zh_X8_isWord_46 : zfe zqX8_isWord.i 46 = some (46, .iadd, 1, 0, 0, 0) := rfl
theorem zh_X8_isWord_47 : zfe zqX8_isWord.i 47 = some (47, .istore_n 2, 1, 0, 0, 0) := rfl
theorem zh_X8_isWord_48 : zfe zqX8_isWord.i 48 = some (48, .iinc 3 8, 3, 0, 0, 0) := rfl
theorem zh_X8_isWord_51 : zfe zqX8_isWord.i 51 = some (51, .goto (-47), 3, 0, 0, 0) := rfl
theorem zh_X8_isWord_54 : zfe zqX8_isWord.i 54 = some (54, .iload_n 2, 1, 0, 0, 0) := rfl
theorem zh_X8_isWord_55 : zfe zqX8_isWord.i 55 = some (55, .bipush 6, 2, 0, 0, 0) := rfl
theorem zh_X8_isWord_57 : zfe zqX8_isWord.i 57 = some (57, .if_icmp .gt 7, 3, 0, 0, 0) := rfl
theorem zh_X8_isWord_60 : zfe zqX8_isWord.i 60 = some (60, .iconst 1, 1, 0, 0, 0) := rfl
theorem zh_X8_isWord_61 : zfe zqX8_isWord.i 61 = some (61, .goto 4, 3, 0, 0, 0) := rfl
theorem zh_X8_isWord_64 : zfe zqX8_isWord.i 64 = some (64, .iconst 0, 1, 0, 0, 0) := rfl
theorem zh_X8_isWord_65 : zfe zqX8_isWord.i 65 = some (65, .ireturn, 1, 0, 0, 0) := rfl
theorem ze_X8_isWord_0 {d : Nat} {f : zF} {m : zM} {a0 a1 a2 a3 a4 : Value} : zex zTb d zqX8_isWord 0 [a0, a1, a2, a3, a4] [] f m = zex zTb d zqX8_isWord 4 [a0, (zclr a1), .int (I 0), .int (I 0), a4] [] f m := (zx_iconst zh_X8_isWord_0).trans ((zxl_go (x := (2, [a0, (zclr a1), .int (I 0), a3, a4], [], f, m)) zh_X8_isWord_1 rfl).trans ((zx_iconst zh_X8_isWord_2).trans ((zxl_go (x := (4, [a0, (zclr a1), .int (I 0), .int (I 0), a4], [], f, m)) zh_X8_isWord_3 rfl))))
theorem ze_X8_isWord_4 {d : Nat} {f : zF} {m : zM} {a0 a1 a2 a4 : Value} {x3 : Int32} : zex zTb d zqX8_isWord 4 [a0, a1, a2, .int x3, a4] [] f m = if zc2 .ge x3 (I 64) = true then zex zTb d zqX8_isWord 54 [a0, a1, a2, .int x3, a4] [] f m else zex zTb d zqX8_isWord 10 [a0, a1, a2, .int x3, a4] [] f m := (zxl_go (x := (5, [a0, a1, a2, .int x3, a4], [.int x3], f, m)) zh_X8_isWord_4 rfl).trans ((zx_bipush zh_X8_isWord_5 (by decide)).trans ((zx_icmp (tgt := 54) zh_X8_isWord_7 rfl)))
theorem ze_X8_isWord_10 {d : Nat} {f : zF} {m : zM} {x0 : Int64} {a1 a2 a4 : Value} {x3 : Int32} : zex zTb d zqX8_isWord 10 [.long x0, a1, a2, .int x3, a4] [] f m = if zc1 .eq ((((x0.toUInt64 >>> (x3.toInt64.toUInt64 &&& Int64.toUInt64 63)).toInt64) &&& (J 255)).toInt32) = true then zex zTb d zqX8_isWord 35 [.long x0, a1, a2, .int x3, .int ((((x0.toUInt64 >>> (x3.toInt64.toUInt64 &&& Int64.toUInt64 63)).toInt64) &&& (J 255)).toInt32)] [] f m else zex zTb d zqX8_isWord 25 [.long x0, a1, a2, .int x3, .int ((((x0.toUInt64 >>> (x3.toInt64.toUInt64 &&& Int64.toUInt64 63)).toInt64) &&& (J 255)).toInt32)] [] f m := (zxl_go (x := (11, [.long x0, a1, a2, .int x3, a4], [.long x0], f, m)) zh_X8_isWord_10 rfl).trans ((zxl_go (x := (12, [.long x0, a1, a2, .int x3, a4], [.int x3, .long x0], f, m)) zh_X8_isWord_11 rfl).trans ((zxl_go (x := (13, [.long x0, a1, a2, .int x3, a4], [.long ((x0.toUInt64 >>> (x3.toInt64.toUInt64 &&& Int64.toUInt64 63)).toInt64)], f, m)) zh_X8_isWord_12 rfl).trans ((zx_ldc2 (v := 255) zh_X8_isWord_13 (by decide)).trans ((zxl_go (x := (17, [.long x0, a1, a2, .int x3, a4], [.long (((x0.toUInt64 >>> (x3.toInt64.toUInt64 &&& Int64.toUInt64 63)).toInt64) &&& (J 255))], f, m)) zh_X8_isWord_16 rfl).trans ((zxl_go (x := (18, [.long x0, a1, a2, .int x3, a4], [.int ((((x0.toUInt64 >>> (x3.toInt64.toUInt64 &&& Int64.toUInt64 63)).toInt64) &&& (J 255)).toInt32)], f, m)) zh_X8_isWord_17 rfl).trans ((zxl_go (x := (20, [.long x0, a1, a2, .int x3, .int ((((x0.toUInt64 >>> (x3.toInt64.toUInt64 &&& Int64.toUInt64 63)).toInt64) &&& (J 255)).toInt32)], [], f, m)) zh_X8_isWord_18 rfl).trans ((zxl_go (x := (22, [.long x0, a1, a2, .int x3, .int ((((x0.toUInt64 >>> (x3.toInt64.toUInt64 &&& Int64.toUInt64 63)).toInt64) &&& (J 255)).toInt32)], [.int ((((x0.toUInt64 >>> (x3.toInt64.toUInt64 &&& Int64.toUInt64 63)).toInt64) &&& (J 255)).toInt32)], f, m)) zh_X8_isWord_20 rfl).trans ((zx_if (tgt := 35) zh_X8_isWord_22 rfl)))))))))
theorem ze_X8_isWord_25 {d : Nat} {f : zF} {m : zM} {a0 a1 a2 a3 : Value} {x4 : Int32} : zex zTb d zqX8_isWord 25 [a0, a1, a2, a3, .int x4] [] f m = zcal zTb (zrun zTb d 70 [.int x4] f m) d zqX8_isWord 27 30 [a0, a1, a2, a3, .int x4] [] := (zxl_go (x := (27, [a0, a1, a2, a3, .int x4], [.int x4], f, m)) zh_X8_isWord_25 rfl).trans (((zx_static zh_X8_isWord_27 (Nat.le_of_ble_eq_true rfl) rfl rfl).trans (if_pos (Nat.le_of_ble_eq_true rfl))))
theorem ze_X8_isWord_30 {d : Nat} {f : zF} {m : zM} {a0 a1 a2 a3 a4 : Value} {y0 : Int32} : zex zTb d zqX8_isWord 30 [a0, a1, a2, a3, a4] [.int y0] f m = if zc1 .ne y0 = true then zex zTb d zqX8_isWord 35 [a0, a1, a2, a3, a4] [] f m else zex zTb d zqX8_isWord 33 [a0, a1, a2, a3, a4] [] f m := (zx_if (tgt := 35) zh_X8_isWord_30 rfl)
theorem ze_X8_isWord_33 {d : Nat} {f : zF} {m : zM} {a0 a1 a2 a3 a4 : Value} : zex zTb d zqX8_isWord 33 [a0, a1, a2, a3, a4] [] f m = some (.inl (some (.int (I 0))), f, m) := (zx_iconst zh_X8_isWord_33).trans ((zx_iret zh_X8_isWord_34 (by first | rfl | decide)))
theorem ze_X8_isWord_35 {d : Nat} {f : zF} {m : zM} {a0 a1 a3 : Value} {x2 x4 : Int32} : zex zTb d zqX8_isWord 35 [a0, a1, .int x2, a3, .int x4] [] f m = if zc1 .eq x4 = true then zex zTb d zqX8_isWord 45 [a0, a1, .int x2, a3, .int x4] [.int x2] f m else zex zTb d zqX8_isWord 41 [a0, a1, .int x2, a3, .int x4] [.int x2] f m := (zxl_go (x := (36, [a0, a1, .int x2, a3, .int x4], [.int x2], f, m)) zh_X8_isWord_35 rfl).trans ((zxl_go (x := (38, [a0, a1, .int x2, a3, .int x4], [.int x4, .int x2], f, m)) zh_X8_isWord_36 rfl).trans ((zx_if (tgt := 45) zh_X8_isWord_38 rfl)))
theorem ze_X8_isWord_41 {d : Nat} {f : zF} {m : zM} {a0 a1 a2 a4 : Value} {x3 y0 : Int32} : zex zTb d zqX8_isWord 41 [a0, a1, a2, .int x3, a4] [.int y0] f m = zex zTb d zqX8_isWord 4 [a0, (zclr a1), .int (y0 + (I 1)), .int (x3 + I 8), a4] [] f m := (zx_iconst zh_X8_isWord_41).trans ((zx_goto zh_X8_isWord_42 rfl).trans ((zxl_go (x := (47, [a0, a1, a2, .int x3, a4], [.int (y0 + (I 1))], f, m)) zh_X8_isWord_46 rfl).trans ((zxl_go (x := (48, [a0, (zclr a1), .int (y0 + (I 1)), .int x3, a4], [], f, m)) zh_X8_isWord_47 rfl).trans ((zxl_go (x := (51, [a0, (zclr a1), .int (y0 + (I 1)), .int (x3 + I 8), a4], [], f, m)) zh_X8_isWord_48 rfl).trans ((zx_goto zh_X8_isWord_51 rfl))))))
theorem ze_X8_isWord_45 {d : Nat} {f : zF} {m : zM} {a0 a1 a2 a4 : Value} {x3 y0 : Int32} : zex zTb d zqX8_isWord 45 [a0, a1, a2, .int x3, a4] [.int y0] f m = zex zTb d zqX8_isWord 4 [a0, (zclr a1), .int (y0 + (I 0)), .int (x3 + I 8), a4] [] f m := (zx_iconst zh_X8_isWord_45).trans ((zxl_go (x := (47, [a0, a1, a2, .int x3, a4], [.int (y0 + (I 0))], f, m)) zh_X8_isWord_46 rfl).trans ((zxl_go (x := (48, [a0, (zclr a1), .int (y0 + (I 0)), .int x3, a4], [], f, m)) zh_X8_isWord_47 rfl).trans ((zxl_go (x := (51, [a0, (zclr a1), .int (y0 + (I 0)), .int (x3 + I 8), a4], [], f, m)) zh_X8_isWord_48 rfl).trans ((zx_goto zh_X8_isWord_51 rfl)))))
theorem ze_X8_isWord_54 {d : Nat} {f : zF} {m : zM} {a0 a1 a3 a4 : Value} {x2 : Int32} : zex zTb d zqX8_isWord 54 [a0, a1, .int x2, a3, a4] [] f m = if zc2 .gt x2 (I 6) = true then zex zTb d zqX8_isWord 64 [a0, a1, .int x2, a3, a4] [] f m else zex zTb d zqX8_isWord 60 [a0, a1, .int x2, a3, a4] [] f m := (zxl_go (x := (55, [a0, a1, .int x2, a3, a4], [.int x2], f, m)) zh_X8_isWord_54 rfl).trans ((zx_bipush zh_X8_isWord_55 (by decide)).trans ((zx_icmp (tgt := 64) zh_X8_isWord_57 rfl)))
theorem ze_X8_isWord_60 {d : Nat} {f : zF} {m : zM} {a0 a1 a2 a3 a4 : Value} : zex zTb d zqX8_isWord 60 [a0, a1, a2, a3, a4] [] f m = some (.inl (some (.int (I 1))), f, m) := (zx_iconst zh_X8_isWord_60).trans ((zx_goto zh_X8_isWord_61 rfl).trans ((zx_iret zh_X8_isWord_65 (by first | rfl | decide))))
theorem ze_X8_isWord_64 {d : Nat} {f : zF} {m : zM} {a0 a1 a2 a3 a4 : Value} : zex zTb d zqX8_isWord 64 [a0, a1, a2, a3, a4] [] f m = some (.inl (some (.int (I 0))), f, m) := (zx_iconst zh_X8_isWord_64).trans ((zx_iret zh_X8_isWord_65 (by first | rfl | decide)))
-- X8_packed
theorem zh_X8_packed_0 : zfe zqX8_packed.i 0 = some (0, .lconst 0, 1, 0, 0, 0) := rfl
theorem zh_X8_packed_1 : zfe zqX8_packed.i 1 = some (1, .lstore_n 2, 1, 0, 0, 0) := rfl
theorem zh_X8_packed_2 : zfe zqX8_packed.i 2 = some (2, .bipush 56, 2, 0, 0, 0) := rfl
theorem zh_X8_packed_4 : zfe zqX8_packed.i 4 = some (4, .istore 4, 2, 0, 0, 0) := rfl
theorem zh_X8_packed_6 : zfe zqX8_packed.i 6 = some (6, .iload 4, 2, 0, 0, 0) := rfl
theorem zh_X8_packed_8 : zfe zqX8_packed.i 8 = some (8, .ifCond .lt 34, 3, 0, 0, 0) := rfl
theorem zh_X8_packed_11 : zfe zqX8_packed.i 11 = some (11, .lload_n 0, 1, 0, 0, 0) := rfl
theorem zh_X8_packed_12 : zfe zqX8_packed.i 12 = some (12, .iload 4, 2, 0, 0, 0) := rfl
theorem zh_X8_packed_14 : zfe zqX8_packed.i 14 = some (14, .lushr, 1, 0, 0, 0) := rfl
theorem zh_X8_packed_15 : zfe zqX8_packed.i 15 = some (15, .ldc2_w 9, 3, 255, 0, 0) := rfl
theorem zh_X8_packed_18 : zfe zqX8_packed.i 18 = some (18, .land, 1, 0, 0, 0) := rfl
theorem zh_X8_packed_19 : zfe zqX8_packed.i 19 = some (19, .lstore 5, 2, 0, 0, 0) := rfl
theorem zh_X8_packed_21 : zfe zqX8_packed.i 21 = some (21, .lload 5, 2, 0, 0, 0) := rfl
theorem zh_X8_packed_23 : zfe zqX8_packed.i 23 = some (23, .lconst 0, 1, 0, 0, 0) := rfl
theorem zh_X8_packed_24 : zfe zqX8_packed.i 24 = some (24, .lcmp, 1, 0, 0, 0) := rfl
theorem zh_X8_packed_25 : zfe zqX8_packed.i 25 = some (25, .ifCond .eq 11, 3, 0, 0, 0) := rfl
theorem zh_X8_packed_28 : zfe zqX8_packed.i 28 = some (28, .lload_n 2, 1, 0, 0, 0) := rfl
theorem zh_X8_packed_29 : zfe zqX8_packed.i 29 = some (29, .bipush 8, 2, 0, 0, 0) := rfl
theorem zh_X8_packed_31 : zfe zqX8_packed.i 31 = some (31, .lshl, 1, 0, 0, 0) := rfl
theorem zh_X8_packed_32 : zfe zqX8_packed.i 32 = some (32, .lload 5, 2, 0, 0, 0) := rfl
theorem zh_X8_packed_34 : zfe zqX8_packed.i 34 = some (34, .lor, 1, 0, 0, 0) := rfl
theorem zh_X8_packed_35 : zfe zqX8_packed.i 35 = some (35, .lstore_n 2, 1, 0, 0, 0) := rfl
theorem zh_X8_packed_36 : zfe zqX8_packed.i 36 = some (36, .iinc 4 (-8), 3, 0, 0, 0) := rfl
theorem zh_X8_packed_39 : zfe zqX8_packed.i 39 = some (39, .goto (-33), 3, 0, 0, 0) := rfl
theorem zh_X8_packed_42 : zfe zqX8_packed.i 42 = some (42, .lload_n 2, 1, 0, 0, 0) := rfl
theorem zh_X8_packed_43 : zfe zqX8_packed.i 43 = some (43, .lreturn, 1, 0, 0, 0) := rfl
theorem ze_X8_packed_0 {d : Nat} {f : zF} {m : zM} {a0 a1 a2 a3 a4 a5 a6 : Value} : zex zTb d zqX8_packed 0 [a0, a1, a2, a3, a4, a5, a6] [] f m = zex zTb d zqX8_packed 6 [a0, (zclr a1), .long (J 0), .null, .int (I 56), a5, a6] [] f m := (zx_lconst (v := 0) zh_X8_packed_0 (by decide)).trans ((zxl_go (x := (2, [a0, (zclr a1), .long (J 0), .null, a4, a5, a6], [], f, m)) zh_X8_packed_1 rfl).trans ((zx_bipush zh_X8_packed_2 (by decide)).trans ((zxl_go (x := (6, [a0, (zclr a1), .long (J 0), .null, .int (I 56), a5, a6], [], f, m)) zh_X8_packed_4 rfl))))
theorem ze_X8_packed_6 {d : Nat} {f : zF} {m : zM} {a0 a1 a2 a3 a5 a6 : Value} {x4 : Int32} : zex zTb d zqX8_packed 6 [a0, a1, a2, a3, .int x4, a5, a6] [] f m = if zc1 .lt x4 = true then zex zTb d zqX8_packed 42 [a0, a1, a2, a3, .int x4, a5, a6] [] f m else zex zTb d zqX8_packed 11 [a0, a1, a2, a3, .int x4, a5, a6] [] f m := (zxl_go (x := (8, [a0, a1, a2, a3, .int x4, a5, a6], [.int x4], f, m)) zh_X8_packed_6 rfl).trans ((zx_if (tgt := 42) zh_X8_packed_8 rfl))
theorem ze_X8_packed_11 {d : Nat} {f : zF} {m : zM} {x0 : Int64} {a1 a2 a3 a5 a6 : Value} {x4 : Int32} : zex zTb d zqX8_packed 11 [.long x0, a1, a2, a3, .int x4, a5, a6] [] f m = if zc1 .eq (lg_cmp (((x0.toUInt64 >>> (x4.toInt64.toUInt64 &&& Int64.toUInt64 63)).toInt64) &&& (J 255)) (J 0)) = true then zex zTb d zqX8_packed 36 [.long x0, a1, a2, a3, .int x4, .long (((x0.toUInt64 >>> (x4.toInt64.toUInt64 &&& Int64.toUInt64 63)).toInt64) &&& (J 255)), .null] [] f m else zex zTb d zqX8_packed 28 [.long x0, a1, a2, a3, .int x4, .long (((x0.toUInt64 >>> (x4.toInt64.toUInt64 &&& Int64.toUInt64 63)).toInt64) &&& (J 255)), .null] [] f m := (zxl_go (x := (12, [.long x0, a1, a2, a3, .int x4, a5, a6], [.long x0], f, m)) zh_X8_packed_11 rfl).trans ((zxl_go (x := (14, [.long x0, a1, a2, a3, .int x4, a5, a6], [.int x4, .long x0], f, m)) zh_X8_packed_12 rfl).trans ((zxl_go (x := (15, [.long x0, a1, a2, a3, .int x4, a5, a6], [.long ((x0.toUInt64 >>> (x4.toInt64.toUInt64 &&& Int64.toUInt64 63)).toInt64)], f, m)) zh_X8_packed_14 rfl).trans ((zx_ldc2 (v := 255) zh_X8_packed_15 (by decide)).trans ((zxl_go (x := (19, [.long x0, a1, a2, a3, .int x4, a5, a6], [.long (((x0.toUInt64 >>> (x4.toInt64.toUInt64 &&& Int64.toUInt64 63)).toInt64) &&& (J 255))], f, m)) zh_X8_packed_18 rfl).trans ((zxl_go (x := (21, [.long x0, a1, a2, a3, .int x4, .long (((x0.toUInt64 >>> (x4.toInt64.toUInt64 &&& Int64.toUInt64 63)).toInt64) &&& (J 255)), .null], [], f, m)) zh_X8_packed_19 rfl).trans ((zxl_go (x := (23, [.long x0, a1, a2, a3, .int x4, .long (((x0.toUInt64 >>> (x4.toInt64.toUInt64 &&& Int64.toUInt64 63)).toInt64) &&& (J 255)), .null], [.long (((x0.toUInt64 >>> (x4.toInt64.toUInt64 &&& Int64.toUInt64 63)).toInt64) &&& (J 255))], f, m)) zh_X8_packed_21 rfl).trans ((zx_lconst (v := 0) zh_X8_packed_23 (by decide)).trans ((zxl_go (x := (25, [.long x0, a1, a2, a3, .int x4, .long (((x0.toUInt64 >>> (x4.toInt64.toUInt64 &&& Int64.toUInt64 63)).toInt64) &&& (J 255)), .null], [.int (lg_cmp (((x0.toUInt64 >>> (x4.toInt64.toUInt64 &&& Int64.toUInt64 63)).toInt64) &&& (J 255)) (J 0))], f, m)) zh_X8_packed_24 rfl).trans ((zx_if (tgt := 36) zh_X8_packed_25 rfl))))))))))
theorem ze_X8_packed_28 {d : Nat} {f : zF} {m : zM} {a0 a1 a3 a6 : Value} {x2 x5 : Int64} {x4 : Int32} : zex zTb d zqX8_packed 28 [a0, a1, .long x2, a3, .int x4, .long x5, a6] [] f m = zex zTb d zqX8_packed 6 [a0, (zclr a1), .long ((x2 <<< ((I 8).toInt64 &&& 63)) ||| x5), .null, .int (x4 + I (-8)), .long x5, a6] [] f m := (zxl_go (x := (29, [a0, a1, .long x2, a3, .int x4, .long x5, a6], [.long x2], f, m)) zh_X8_packed_28 rfl).trans ((zx_bipush zh_X8_packed_29 (by decide)).trans ((zxl_go (x := (32, [a0, a1, .long x2, a3, .int x4, .long x5, a6], [.long (x2 <<< ((I 8).toInt64 &&& 63))], f, m)) zh_X8_packed_31 rfl).trans ((zxl_go (x := (34, [a0, a1, .long x2, a3, .int x4, .long x5, a6], [.long x5, .long (x2 <<< ((I 8).toInt64 &&& 63))], f, m)) zh_X8_packed_32 rfl).trans ((zxl_go (x := (35, [a0, a1, .long x2, a3, .int x4, .long x5, a6], [.long ((x2 <<< ((I 8).toInt64 &&& 63)) ||| x5)], f, m)) zh_X8_packed_34 rfl).trans ((zxl_go (x := (36, [a0, (zclr a1), .long ((x2 <<< ((I 8).toInt64 &&& 63)) ||| x5), .null, .int x4, .long x5, a6], [], f, m)) zh_X8_packed_35 rfl).trans ((zxl_go (x := (39, [a0, (zclr a1), .long ((x2 <<< ((I 8).toInt64 &&& 63)) ||| x5), .null, .int (x4 + I (-8)), .long x5, a6], [], f, m)) zh_X8_packed_36 rfl).trans ((zx_goto zh_X8_packed_39 rfl))))))))
theorem ze_X8_packed_36 {d : Nat} {f : zF} {m : zM} {a0 a1 a2 a3 a5 a6 : Value} {x4 : Int32} : zex zTb d zqX8_packed 36 [a0, a1, a2, a3, .int x4, a5, a6] [] f m = zex zTb d zqX8_packed 6 [a0, a1, a2, (zclr a3), .int (x4 + I (-8)), a5, a6] [] f m := (zxl_go (x := (39, [a0, a1, a2, (zclr a3), .int (x4 + I (-8)), a5, a6], [], f, m)) zh_X8_packed_36 rfl).trans ((zx_goto zh_X8_packed_39 rfl))
theorem ze_X8_packed_42 {d : Nat} {f : zF} {m : zM} {a0 a1 a3 a4 a5 a6 : Value} {x2 : Int64} : zex zTb d zqX8_packed 42 [a0, a1, .long x2, a3, a4, a5, a6] [] f m = some (.inl (some (.long x2)), f, m) := (zxl_go (x := (43, [a0, a1, .long x2, a3, a4, a5, a6], [.long x2], f, m)) zh_X8_packed_42 rfl).trans ((zx_lret zh_X8_packed_43 rfl))
-- X8_lengthOf
theorem zh_X8_lengthOf_0 : zfe zqX8_lengthOf.i 0 = some (0, .iconst 0, 1, 0, 0, 0) := rfl
theorem zh_X8_lengthOf_1 : zfe zqX8_lengthOf.i 1 = some (1, .istore_n 2, 1, 0, 0, 0) := rfl
theorem zh_X8_lengthOf_2 : zfe zqX8_lengthOf.i 2 = some (2, .iconst 0, 1, 0, 0, 0) := rfl
theorem zh_X8_lengthOf_3 : zfe zqX8_lengthOf.i 3 = some (3, .istore_n 3, 1, 0, 0, 0) := rfl
theorem zh_X8_lengthOf_4 : zfe zqX8_lengthOf.i 4 = some (4, .iload_n 3, 1, 0, 0, 0) := rfl
theorem zh_X8_lengthOf_5 : zfe zqX8_lengthOf.i 5 = some (5, .bipush 6, 2, 0, 0, 0) := rfl
theorem zh_X8_lengthOf_7 : zfe zqX8_lengthOf.i 7 = some (7, .if_icmp .ge 23, 3, 0, 0, 0) := rfl
theorem zh_X8_lengthOf_10 : zfe zqX8_lengthOf.i 10 = some (10, .lload_n 0, 1, 0, 0, 0) := rfl
theorem zh_X8_lengthOf_11 : zfe zqX8_lengthOf.i 11 = some (11, .bipush 8, 2, 0, 0, 0) := rfl
theorem zh_X8_lengthOf_13 : zfe zqX8_lengthOf.i 13 = some (13, .iload_n 3, 1, 0, 0, 0) := rfl
theorem zh_X8_lengthOf_14 : zfe zqX8_lengthOf.i 14 = some (14, .imul, 1, 0, 0, 0) := rfl
theorem zh_X8_lengthOf_15 : zfe zqX8_lengthOf.i 15 = some (15, .lushr, 1, 0, 0, 0) := rfl
theorem zh_X8_lengthOf_16 : zfe zqX8_lengthOf.i 16 = some (16, .lconst 0, 1, 0, 0, 0) := rfl
theorem zh_X8_lengthOf_17 : zfe zqX8_lengthOf.i 17 = some (17, .lcmp, 1, 0, 0, 0) := rfl
theorem zh_X8_lengthOf_18 : zfe zqX8_lengthOf.i 18 = some (18, .ifCond .eq 12, 3, 0, 0, 0) := rfl
theorem zh_X8_lengthOf_21 : zfe zqX8_lengthOf.i 21 = some (21, .iinc 2 1, 3, 0, 0, 0) := rfl
theorem zh_X8_lengthOf_24 : zfe zqX8_lengthOf.i 24 = some (24, .iinc 3 1, 3, 0, 0, 0) := rfl
theorem zh_X8_lengthOf_27 : zfe zqX8_lengthOf.i 27 = some (27, .goto (-23), 3, 0, 0, 0) := rfl
theorem zh_X8_lengthOf_30 : zfe zqX8_lengthOf.i 30 = some (30, .iload_n 2, 1, 0, 0, 0) := rfl
theorem zh_X8_lengthOf_31 : zfe zqX8_lengthOf.i 31 = some (31, .ireturn, 1, 0, 0, 0) := rfl
theorem ze_X8_lengthOf_0 {d : Nat} {f : zF} {m : zM} {a0 a1 a2 a3 : Value} : zex zTb d zqX8_lengthOf 0 [a0, a1, a2, a3] [] f m = zex zTb d zqX8_lengthOf 4 [a0, (zclr a1), .int (I 0), .int (I 0)] [] f m := (zx_iconst zh_X8_lengthOf_0).trans ((zxl_go (x := (2, [a0, (zclr a1), .int (I 0), a3], [], f, m)) zh_X8_lengthOf_1 rfl).trans ((zx_iconst zh_X8_lengthOf_2).trans ((zxl_go (x := (4, [a0, (zclr a1), .int (I 0), .int (I 0)], [], f, m)) zh_X8_lengthOf_3 rfl))))
theorem ze_X8_lengthOf_4 {d : Nat} {f : zF} {m : zM} {a0 a1 a2 : Value} {x3 : Int32} : zex zTb d zqX8_lengthOf 4 [a0, a1, a2, .int x3] [] f m = if zc2 .ge x3 (I 6) = true then zex zTb d zqX8_lengthOf 30 [a0, a1, a2, .int x3] [] f m else zex zTb d zqX8_lengthOf 10 [a0, a1, a2, .int x3] [] f m := (zxl_go (x := (5, [a0, a1, a2, .int x3], [.int x3], f, m)) zh_X8_lengthOf_4 rfl).trans ((zx_bipush zh_X8_lengthOf_5 (by decide)).trans ((zx_icmp (tgt := 30) zh_X8_lengthOf_7 rfl)))
theorem ze_X8_lengthOf_10 {d : Nat} {f : zF} {m : zM} {x0 : Int64} {a1 a2 : Value} {x3 : Int32} : zex zTb d zqX8_lengthOf 10 [.long x0, a1, a2, .int x3] [] f m = if zc1 .eq (lg_cmp ((x0.toUInt64 >>> (((I 8) * x3).toInt64.toUInt64 &&& Int64.toUInt64 63)).toInt64) (J 0)) = true then zex zTb d zqX8_lengthOf 30 [.long x0, a1, a2, .int x3] [] f m else zex zTb d zqX8_lengthOf 21 [.long x0, a1, a2, .int x3] [] f m := (zxl_go (x := (11, [.long x0, a1, a2, .int x3], [.long x0], f, m)) zh_X8_lengthOf_10 rfl).trans ((zx_bipush zh_X8_lengthOf_11 (by decide)).trans ((zxl_go (x := (14, [.long x0, a1, a2, .int x3], [.int x3, .int (I 8), .long x0], f, m)) zh_X8_lengthOf_13 rfl).trans ((zxl_go (x := (15, [.long x0, a1, a2, .int x3], [.int ((I 8) * x3), .long x0], f, m)) zh_X8_lengthOf_14 rfl).trans ((zxl_go (x := (16, [.long x0, a1, a2, .int x3], [.long ((x0.toUInt64 >>> (((I 8) * x3).toInt64.toUInt64 &&& Int64.toUInt64 63)).toInt64)], f, m)) zh_X8_lengthOf_15 rfl).trans ((zx_lconst (v := 0) zh_X8_lengthOf_16 (by decide)).trans ((zxl_go (x := (18, [.long x0, a1, a2, .int x3], [.int (lg_cmp ((x0.toUInt64 >>> (((I 8) * x3).toInt64.toUInt64 &&& Int64.toUInt64 63)).toInt64) (J 0))], f, m)) zh_X8_lengthOf_17 rfl).trans ((zx_if (tgt := 30) zh_X8_lengthOf_18 rfl))))))))
theorem ze_X8_lengthOf_21 {d : Nat} {f : zF} {m : zM} {a0 a1 : Value} {x2 x3 : Int32} : zex zTb d zqX8_lengthOf 21 [a0, a1, .int x2, .int x3] [] f m = zex zTb d zqX8_lengthOf 4 [a0, (zclr a1), .int (x2 + I 1), .int (x3 + I 1)] [] f m := (zxl_go (x := (24, [a0, (zclr a1), .int (x2 + I 1), .int x3], [], f, m)) zh_X8_lengthOf_21 rfl).trans ((zxl_go (x := (27, [a0, (zclr a1), .int (x2 + I 1), .int (x3 + I 1)], [], f, m)) zh_X8_lengthOf_24 rfl).trans ((zx_goto zh_X8_lengthOf_27 rfl)))
theorem ze_X8_lengthOf_30 {d : Nat} {f : zF} {m : zM} {a0 a1 a3 : Value} {x2 : Int32} : zex zTb d zqX8_lengthOf 30 [a0, a1, .int x2, a3] [] f m = some (.inl (some (.int x2)), f, m) := (zxl_go (x := (31, [a0, a1, .int x2, a3], [.int x2], f, m)) zh_X8_lengthOf_30 rfl).trans ((zx_iret zh_X8_lengthOf_31 (by first | rfl | decide)))
-- X8_ending
theorem zh_X8_ending_0 : zfe zqX8_ending.i 0 = some (0, .lload_n 0, 1, 0, 0, 0) := rfl
theorem zh_X8_ending_1 : zfe zqX8_ending.i 1 = some (1, .lconst 1, 1, 0, 0, 0) := rfl
theorem zh_X8_ending_2 : zfe zqX8_ending.i 2 = some (2, .bipush 8, 2, 0, 0, 0) := rfl
theorem zh_X8_ending_4 : zfe zqX8_ending.i 4 = some (4, .iload_n 2, 1, 0, 0, 0) := rfl
theorem zh_X8_ending_5 : zfe zqX8_ending.i 5 = some (5, .imul, 1, 0, 0, 0) := rfl
theorem zh_X8_ending_6 : zfe zqX8_ending.i 6 = some (6, .lshl, 1, 0, 0, 0) := rfl
theorem zh_X8_ending_7 : zfe zqX8_ending.i 7 = some (7, .lconst 1, 1, 0, 0, 0) := rfl
theorem zh_X8_ending_8 : zfe zqX8_ending.i 8 = some (8, .lsub, 1, 0, 0, 0) := rfl
theorem zh_X8_ending_9 : zfe zqX8_ending.i 9 = some (9, .land, 1, 0, 0, 0) := rfl
theorem zh_X8_ending_10 : zfe zqX8_ending.i 10 = some (10, .lreturn, 1, 0, 0, 0) := rfl
theorem ze_X8_ending_0 {d : Nat} {f : zF} {m : zM} {x0 : Int64} {a1 : Value} {x2 : Int32} : zex zTb d zqX8_ending 0 [.long x0, a1, .int x2] [] f m = some (.inl (some (.long (x0 &&& (((J 1) <<< (((I 8) * x2).toInt64 &&& 63)) - (J 1))))), f, m) := (zxl_go (x := (1, [.long x0, a1, .int x2], [.long x0], f, m)) zh_X8_ending_0 rfl).trans ((zx_lconst (v := 1) zh_X8_ending_1 (by decide)).trans ((zx_bipush zh_X8_ending_2 (by decide)).trans ((zxl_go (x := (5, [.long x0, a1, .int x2], [.int x2, .int (I 8), .long (J 1), .long x0], f, m)) zh_X8_ending_4 rfl).trans ((zxl_go (x := (6, [.long x0, a1, .int x2], [.int ((I 8) * x2), .long (J 1), .long x0], f, m)) zh_X8_ending_5 rfl).trans ((zxl_go (x := (7, [.long x0, a1, .int x2], [.long ((J 1) <<< (((I 8) * x2).toInt64 &&& 63)), .long x0], f, m)) zh_X8_ending_6 rfl).trans ((zx_lconst (v := 1) zh_X8_ending_7 (by decide)).trans ((zxl_go (x := (9, [.long x0, a1, .int x2], [.long (((J 1) <<< (((I 8) * x2).toInt64 &&& 63)) - (J 1)), .long x0], f, m)) zh_X8_ending_8 rfl).trans ((zxl_go (x := (10, [.long x0, a1, .int x2], [.long (x0 &&& (((J 1) <<< (((I 8) * x2).toInt64 &&& 63)) - (J 1)))], f, m)) zh_X8_ending_9 rfl).trans ((zx_lret zh_X8_ending_10 rfl))))))))))
-- X8_placeOfFirst
theorem zh_X8_placeOfFirst_0 : zfe zqX8_placeOfFirst.i 0 = some (0, .iconst 0, 1, 0, 0, 0) := rfl
theorem zh_X8_placeOfFirst_1 : zfe zqX8_placeOfFirst.i 1 = some (1, .istore_n 1, 1, 0, 0, 0) := rfl
theorem zh_X8_placeOfFirst_2 : zfe zqX8_placeOfFirst.i 2 = some (2, .iconst 0, 1, 0, 0, 0) := rfl
theorem zh_X8_placeOfFirst_3 : zfe zqX8_placeOfFirst.i 3 = some (3, .istore_n 2, 1, 0, 0, 0) := rfl
theorem zh_X8_placeOfFirst_4 : zfe zqX8_placeOfFirst.i 4 = some (4, .iload_n 2, 1, 0, 0, 0) := rfl
theorem zh_X8_placeOfFirst_5 : zfe zqX8_placeOfFirst.i 5 = some (5, .iload_n 0, 1, 0, 0, 0) := rfl
theorem zh_X8_placeOfFirst_6 : zfe zqX8_placeOfFirst.i 6 = some (6, .if_icmp .ge 21, 3, 0, 0, 0) := rfl
theorem zh_X8_placeOfFirst_9 : zfe zqX8_placeOfFirst.i 9 = some (9, .iload_n 2, 1, 0, 0, 0) := rfl
theorem zh_X8_placeOfFirst_10 : zfe zqX8_placeOfFirst.i 10 = some (10, .bipush 6, 2, 0, 0, 0) := rfl
theorem zh_X8_placeOfFirst_12 : zfe zqX8_placeOfFirst.i 12 = some (12, .if_icmp .gt 15, 3, 0, 0, 0) := rfl
theorem zh_X8_placeOfFirst_15 : zfe zqX8_placeOfFirst.i 15 = some (15, .iload_n 1, 1, 0, 0, 0) := rfl
theorem zh_X8_placeOfFirst_16 : zfe zqX8_placeOfFirst.i 16 = some (16, .iconst 3, 1, 0, 0, 0) := rfl
theorem zh_X8_placeOfFirst_17 : zfe zqX8_placeOfFirst.i 17 = some (17, .imul, 1, 0, 0, 0) := rfl
theorem zh_X8_placeOfFirst_18 : zfe zqX8_placeOfFirst.i 18 = some (18, .iconst 1, 1, 0, 0, 0) := rfl
theorem zh_X8_placeOfFirst_19 : zfe zqX8_placeOfFirst.i 19 = some (19, .iadd, 1, 0, 0, 0) := rfl
theorem zh_X8_placeOfFirst_20 : zfe zqX8_placeOfFirst.i 20 = some (20, .istore_n 1, 1, 0, 0, 0) := rfl
theorem zh_X8_placeOfFirst_21 : zfe zqX8_placeOfFirst.i 21 = some (21, .iinc 2 1, 3, 0, 0, 0) := rfl
theorem zh_X8_placeOfFirst_24 : zfe zqX8_placeOfFirst.i 24 = some (24, .goto (-20), 3, 0, 0, 0) := rfl
theorem zh_X8_placeOfFirst_27 : zfe zqX8_placeOfFirst.i 27 = some (27, .iload_n 1, 1, 0, 0, 0) := rfl
theorem zh_X8_placeOfFirst_28 : zfe zqX8_placeOfFirst.i 28 = some (28, .ireturn, 1, 0, 0, 0) := rfl
theorem ze_X8_placeOfFirst_0 {d : Nat} {f : zF} {m : zM} {a0 a1 a2 : Value} : zex zTb d zqX8_placeOfFirst 0 [a0, a1, a2] [] f m = zex zTb d zqX8_placeOfFirst 4 [(zclr a0), .int (I 0), .int (I 0)] [] f m := (zx_iconst zh_X8_placeOfFirst_0).trans ((zxl_go (x := (2, [(zclr a0), .int (I 0), a2], [], f, m)) zh_X8_placeOfFirst_1 rfl).trans ((zx_iconst zh_X8_placeOfFirst_2).trans ((zxl_go (x := (4, [(zclr a0), .int (I 0), .int (I 0)], [], f, m)) zh_X8_placeOfFirst_3 rfl))))
theorem ze_X8_placeOfFirst_4 {d : Nat} {f : zF} {m : zM} {x0 x2 : Int32} {a1 : Value} : zex zTb d zqX8_placeOfFirst 4 [.int x0, a1, .int x2] [] f m = if zc2 .ge x2 x0 = true then zex zTb d zqX8_placeOfFirst 27 [.int x0, a1, .int x2] [] f m else zex zTb d zqX8_placeOfFirst 9 [.int x0, a1, .int x2] [] f m := (zxl_go (x := (5, [.int x0, a1, .int x2], [.int x2], f, m)) zh_X8_placeOfFirst_4 rfl).trans ((zxl_go (x := (6, [.int x0, a1, .int x2], [.int x0, .int x2], f, m)) zh_X8_placeOfFirst_5 rfl).trans ((zx_icmp (tgt := 27) zh_X8_placeOfFirst_6 rfl)))
theorem ze_X8_placeOfFirst_9 {d : Nat} {f : zF} {m : zM} {a0 a1 : Value} {x2 : Int32} : zex zTb d zqX8_placeOfFirst 9 [a0, a1, .int x2] [] f m = if zc2 .gt x2 (I 6) = true then zex zTb d zqX8_placeOfFirst 27 [a0, a1, .int x2] [] f m else zex zTb d zqX8_placeOfFirst 15 [a0, a1, .int x2] [] f m := (zxl_go (x := (10, [a0, a1, .int x2], [.int x2], f, m)) zh_X8_placeOfFirst_9 rfl).trans ((zx_bipush zh_X8_placeOfFirst_10 (by decide)).trans ((zx_icmp (tgt := 27) zh_X8_placeOfFirst_12 rfl)))
theorem ze_X8_placeOfFirst_15 {d : Nat} {f : zF} {m : zM} {a0 : Value} {x1 x2 : Int32} : zex zTb d zqX8_placeOfFirst 15 [a0, .int x1, .int x2] [] f m = zex zTb d zqX8_placeOfFirst 4 [(zclr a0), .int ((x1 * (I 3)) + (I 1)), .int (x2 + I 1)] [] f m := (zxl_go (x := (16, [a0, .int x1, .int x2], [.int x1], f, m)) zh_X8_placeOfFirst_15 rfl).trans ((zx_iconst zh_X8_placeOfFirst_16).trans ((zxl_go (x := (18, [a0, .int x1, .int x2], [.int (x1 * (I 3))], f, m)) zh_X8_placeOfFirst_17 rfl).trans ((zx_iconst zh_X8_placeOfFirst_18).trans ((zxl_go (x := (20, [a0, .int x1, .int x2], [.int ((x1 * (I 3)) + (I 1))], f, m)) zh_X8_placeOfFirst_19 rfl).trans ((zxl_go (x := (21, [(zclr a0), .int ((x1 * (I 3)) + (I 1)), .int x2], [], f, m)) zh_X8_placeOfFirst_20 rfl).trans ((zxl_go (x := (24, [(zclr a0), .int ((x1 * (I 3)) + (I 1)), .int (x2 + I 1)], [], f, m)) zh_X8_placeOfFirst_21 rfl).trans ((zx_goto zh_X8_placeOfFirst_24 rfl))))))))
theorem ze_X8_placeOfFirst_27 {d : Nat} {f : zF} {m : zM} {a0 a2 : Value} {x1 : Int32} : zex zTb d zqX8_placeOfFirst 27 [a0, .int x1, a2] [] f m = some (.inl (some (.int x1)), f, m) := (zxl_go (x := (28, [a0, .int x1, a2], [.int x1], f, m)) zh_X8_placeOfFirst_27 rfl).trans ((zx_iret zh_X8_placeOfFirst_28 (by first | rfl | decide)))
-- X8_atPlace
theorem zh_X8_atPlace_0 : zfe zqX8_atPlace.i 0 = some (0, .lconst 0, 1, 0, 0, 0) := rfl
theorem zh_X8_atPlace_1 : zfe zqX8_atPlace.i 1 = some (1, .lstore_n 1, 1, 0, 0, 0) := rfl
theorem zh_X8_atPlace_2 : zfe zqX8_atPlace.i 2 = some (2, .iload_n 0, 1, 0, 0, 0) := rfl
theorem zh_X8_atPlace_3 : zfe zqX8_atPlace.i 3 = some (3, .istore_n 3, 1, 0, 0, 0) := rfl
theorem zh_X8_atPlace_4 : zfe zqX8_atPlace.i 4 = some (4, .iconst 0, 1, 0, 0, 0) := rfl
theorem zh_X8_atPlace_5 : zfe zqX8_atPlace.i 5 = some (5, .istore 4, 2, 0, 0, 0) := rfl
theorem zh_X8_atPlace_7 : zfe zqX8_atPlace.i 7 = some (7, .iload 4, 2, 0, 0, 0) := rfl
theorem zh_X8_atPlace_9 : zfe zqX8_atPlace.i 9 = some (9, .bipush 48, 2, 0, 0, 0) := rfl
theorem zh_X8_atPlace_11 : zfe zqX8_atPlace.i 11 = some (11, .if_icmp .ge 38, 3, 0, 0, 0) := rfl
theorem zh_X8_atPlace_14 : zfe zqX8_atPlace.i 14 = some (14, .iload_n 3, 1, 0, 0, 0) := rfl
theorem zh_X8_atPlace_15 : zfe zqX8_atPlace.i 15 = some (15, .ifCond .le 34, 3, 0, 0, 0) := rfl
theorem zh_X8_atPlace_18 : zfe zqX8_atPlace.i 18 = some (18, .bipush 97, 2, 0, 0, 0) := rfl
theorem zh_X8_atPlace_20 : zfe zqX8_atPlace.i 20 = some (20, .iload_n 3, 1, 0, 0, 0) := rfl
theorem zh_X8_atPlace_21 : zfe zqX8_atPlace.i 21 = some (21, .iconst 1, 1, 0, 0, 0) := rfl
theorem zh_X8_atPlace_22 : zfe zqX8_atPlace.i 22 = some (22, .isub, 1, 0, 0, 0) := rfl
theorem zh_X8_atPlace_23 : zfe zqX8_atPlace.i 23 = some (23, .iconst 3, 1, 0, 0, 0) := rfl
theorem zh_X8_atPlace_24 : zfe zqX8_atPlace.i 24 = some (24, .irem, 1, 0, 0, 0) := rfl
theorem zh_X8_atPlace_25 : zfe zqX8_atPlace.i 25 = some (25, .iadd, 1, 0, 0, 0) := rfl
theorem zh_X8_atPlace_26 : zfe zqX8_atPlace.i 26 = some (26, .i2l, 1, 0, 0, 0) := rfl
theorem zh_X8_atPlace_27 : zfe zqX8_atPlace.i 27 = some (27, .lstore 5, 2, 0, 0, 0) := rfl
theorem zh_X8_atPlace_29 : zfe zqX8_atPlace.i 29 = some (29, .lload_n 1, 1, 0, 0, 0) := rfl
theorem zh_X8_atPlace_30 : zfe zqX8_atPlace.i 30 = some (30, .lload 5, 2, 0, 0, 0) := rfl
theorem zh_X8_atPlace_32 : zfe zqX8_atPlace.i 32 = some (32, .iload 4, 2, 0, 0, 0) := rfl
theorem zh_X8_atPlace_34 : zfe zqX8_atPlace.i 34 = some (34, .lshl, 1, 0, 0, 0) := rfl
theorem zh_X8_atPlace_35 : zfe zqX8_atPlace.i 35 = some (35, .lor, 1, 0, 0, 0) := rfl
theorem zh_X8_atPlace_36 : zfe zqX8_atPlace.i 36 = some (36, .lstore_n 1, 1, 0, 0, 0) := rfl
theorem zh_X8_atPlace_37 : zfe zqX8_atPlace.i 37 = some (37, .iload_n 3, 1, 0, 0, 0) := rfl
theorem zh_X8_atPlace_38 : zfe zqX8_atPlace.i 38 = some (38, .iconst 1, 1, 0, 0, 0) := rfl
theorem zh_X8_atPlace_39 : zfe zqX8_atPlace.i 39 = some (39, .isub, 1, 0, 0, 0) := rfl
theorem zh_X8_atPlace_40 : zfe zqX8_atPlace.i 40 = some (40, .iconst 3, 1, 0, 0, 0) := rfl
theorem zh_X8_atPlace_41 : zfe zqX8_atPlace.i 41 = some (41, .idiv, 1, 0, 0, 0) := rfl
theorem zh_X8_atPlace_42 : zfe zqX8_atPlace.i 42 = some (42, .istore_n 3, 1, 0, 0, 0) := rfl
theorem zh_X8_atPlace_43 : zfe zqX8_atPlace.i 43 = some (43, .iinc 4 8, 3, 0, 0, 0) := rfl
theorem zh_X8_atPlace_46 : zfe zqX8_atPlace.i 46 = some (46, .goto (-39), 3, 0, 0, 0) := rfl
theorem zh_X8_atPlace_49 : zfe zqX8_atPlace.i 49 = some (49, .lload_n 1, 1, 0, 0, 0) := rfl
theorem zh_X8_atPlace_50 : zfe zqX8_atPlace.i 50 = some (50, .lreturn, 1, 0, 0, 0) := rfl
theorem ze_X8_atPlace_0 {d : Nat} {f : zF} {m : zM} {x0 : Int32} {a1 a2 a3 a4 a5 a6 : Value} : zex zTb d zqX8_atPlace 0 [.int x0, a1, a2, a3, a4, a5, a6] [] f m = zex zTb d zqX8_atPlace 7 [.int x0, .long (J 0), .null, .int x0, .int (I 0), a5, a6] [] f m := (zx_lconst (v := 0) zh_X8_atPlace_0 (by decide)).trans ((zxl_go (x := (2, [.int x0, .long (J 0), .null, a3, a4, a5, a6], [], f, m)) zh_X8_atPlace_1 rfl).trans ((zxl_go (x := (3, [.int x0, .long (J 0), .null, a3, a4, a5, a6], [.int x0], f, m)) zh_X8_atPlace_2 rfl).trans ((zxl_go (x := (4, [.int x0, .long (J 0), .null, .int x0, a4, a5, a6], [], f, m)) zh_X8_atPlace_3 rfl).trans ((zx_iconst zh_X8_atPlace_4).trans ((zxl_go (x := (7, [.int x0, .long (J 0), .null, .int x0, .int (I 0), a5, a6], [], f, m)) zh_X8_atPlace_5 rfl))))))
theorem ze_X8_atPlace_7 {d : Nat} {f : zF} {m : zM} {a0 a1 a2 a3 a5 a6 : Value} {x4 : Int32} : zex zTb d zqX8_atPlace 7 [a0, a1, a2, a3, .int x4, a5, a6] [] f m = if zc2 .ge x4 (I 48) = true then zex zTb d zqX8_atPlace 49 [a0, a1, a2, a3, .int x4, a5, a6] [] f m else zex zTb d zqX8_atPlace 14 [a0, a1, a2, a3, .int x4, a5, a6] [] f m := (zxl_go (x := (9, [a0, a1, a2, a3, .int x4, a5, a6], [.int x4], f, m)) zh_X8_atPlace_7 rfl).trans ((zx_bipush zh_X8_atPlace_9 (by decide)).trans ((zx_icmp (tgt := 49) zh_X8_atPlace_11 rfl)))
theorem ze_X8_atPlace_14 {d : Nat} {f : zF} {m : zM} {a0 a1 a2 a4 a5 a6 : Value} {x3 : Int32} : zex zTb d zqX8_atPlace 14 [a0, a1, a2, .int x3, a4, a5, a6] [] f m = if zc1 .le x3 = true then zex zTb d zqX8_atPlace 49 [a0, a1, a2, .int x3, a4, a5, a6] [] f m else zex zTb d zqX8_atPlace 18 [a0, a1, a2, .int x3, a4, a5, a6] [] f m := (zxl_go (x := (15, [a0, a1, a2, .int x3, a4, a5, a6], [.int x3], f, m)) zh_X8_atPlace_14 rfl).trans ((zx_if (tgt := 49) zh_X8_atPlace_15 rfl))
theorem ze_X8_atPlace_18 {d : Nat} {f : zF} {m : zM} {a0 a1 a2 a4 a5 a6 : Value} {x3 : Int32} : zex zTb d zqX8_atPlace 18 [a0, a1, a2, .int x3, a4, a5, a6] [] f m = if ¬ (I 3) = 0 then zex zTb d zqX8_atPlace 25 [a0, a1, a2, .int x3, a4, a5, a6] [.int ((x3 - (I 1)) - (x3 - (I 1)) / (I 3) * (I 3)), .int (I 97)] f m else none := (zx_bipush zh_X8_atPlace_18 (by decide)).trans ((zxl_go (x := (21, [a0, a1, a2, .int x3, a4, a5, a6], [.int x3, .int (I 97)], f, m)) zh_X8_atPlace_20 rfl).trans ((zx_iconst zh_X8_atPlace_21).trans ((zxl_go (x := (23, [a0, a1, a2, .int x3, a4, a5, a6], [.int (x3 - (I 1)), .int (I 97)], f, m)) zh_X8_atPlace_22 rfl).trans ((zx_iconst zh_X8_atPlace_23).trans ((zx_irem zh_X8_atPlace_24))))))
theorem ze_X8_atPlace_25 {d : Nat} {f : zF} {m : zM} {a0 a2 a5 a6 : Value} {x1 : Int64} {x3 x4 y0 y1 : Int32} : zex zTb d zqX8_atPlace 25 [a0, .long x1, a2, .int x3, .int x4, a5, a6] [.int y1, .int y0] f m = if ¬ (I 3) = 0 then zex zTb d zqX8_atPlace 42 [(zclr a0), .long (x1 ||| (((y0 + y1).toInt64) <<< (x4.toInt64 &&& 63))), .null, .int x3, .int x4, .long ((y0 + y1).toInt64), .null] [.int ((x3 - (I 1)) / (I 3))] f m else none := (zxl_go (x := (26, [a0, .long x1, a2, .int x3, .int x4, a5, a6], [.int (y0 + y1)], f, m)) zh_X8_atPlace_25 rfl).trans ((zxl_go (x := (27, [a0, .long x1, a2, .int x3, .int x4, a5, a6], [.long ((y0 + y1).toInt64)], f, m)) zh_X8_atPlace_26 rfl).trans ((zxl_go (x := (29, [a0, .long x1, a2, .int x3, .int x4, .long ((y0 + y1).toInt64), .null], [], f, m)) zh_X8_atPlace_27 rfl).trans ((zxl_go (x := (30, [a0, .long x1, a2, .int x3, .int x4, .long ((y0 + y1).toInt64), .null], [.long x1], f, m)) zh_X8_atPlace_29 rfl).trans ((zxl_go (x := (32, [a0, .long x1, a2, .int x3, .int x4, .long ((y0 + y1).toInt64), .null], [.long ((y0 + y1).toInt64), .long x1], f, m)) zh_X8_atPlace_30 rfl).trans ((zxl_go (x := (34, [a0, .long x1, a2, .int x3, .int x4, .long ((y0 + y1).toInt64), .null], [.int x4, .long ((y0 + y1).toInt64), .long x1], f, m)) zh_X8_atPlace_32 rfl).trans ((zxl_go (x := (35, [a0, .long x1, a2, .int x3, .int x4, .long ((y0 + y1).toInt64), .null], [.long (((y0 + y1).toInt64) <<< (x4.toInt64 &&& 63)), .long x1], f, m)) zh_X8_atPlace_34 rfl).trans ((zxl_go (x := (36, [a0, .long x1, a2, .int x3, .int x4, .long ((y0 + y1).toInt64), .null], [.long (x1 ||| (((y0 + y1).toInt64) <<< (x4.toInt64 &&& 63)))], f, m)) zh_X8_atPlace_35 rfl).trans ((zxl_go (x := (37, [(zclr a0), .long (x1 ||| (((y0 + y1).toInt64) <<< (x4.toInt64 &&& 63))), .null, .int x3, .int x4, .long ((y0 + y1).toInt64), .null], [], f, m)) zh_X8_atPlace_36 rfl).trans ((zxl_go (x := (38, [(zclr a0), .long (x1 ||| (((y0 + y1).toInt64) <<< (x4.toInt64 &&& 63))), .null, .int x3, .int x4, .long ((y0 + y1).toInt64), .null], [.int x3], f, m)) zh_X8_atPlace_37 rfl).trans ((zx_iconst zh_X8_atPlace_38).trans ((zxl_go (x := (40, [(zclr a0), .long (x1 ||| (((y0 + y1).toInt64) <<< (x4.toInt64 &&& 63))), .null, .int x3, .int x4, .long ((y0 + y1).toInt64), .null], [.int (x3 - (I 1))], f, m)) zh_X8_atPlace_39 rfl).trans ((zx_iconst zh_X8_atPlace_40).trans ((zx_idiv zh_X8_atPlace_41))))))))))))))
theorem ze_X8_atPlace_42 {d : Nat} {f : zF} {m : zM} {a0 a1 a2 a3 a5 a6 : Value} {x4 y0 : Int32} : zex zTb d zqX8_atPlace 42 [a0, a1, a2, a3, .int x4, a5, a6] [.int y0] f m = zex zTb d zqX8_atPlace 7 [a0, a1, (zclr a2), .int y0, .int (x4 + I 8), a5, a6] [] f m := (zxl_go (x := (43, [a0, a1, (zclr a2), .int y0, .int x4, a5, a6], [], f, m)) zh_X8_atPlace_42 rfl).trans ((zxl_go (x := (46, [a0, a1, (zclr a2), .int y0, .int (x4 + I 8), a5, a6], [], f, m)) zh_X8_atPlace_43 rfl).trans ((zx_goto zh_X8_atPlace_46 rfl)))
theorem ze_X8_atPlace_49 {d : Nat} {f : zF} {m : zM} {a0 a2 a3 a4 a5 a6 : Value} {x1 : Int64} : zex zTb d zqX8_atPlace 49 [a0, .long x1, a2, a3, a4, a5, a6] [] f m = some (.inl (some (.long x1)), f, m) := (zxl_go (x := (50, [a0, .long x1, a2, a3, a4, a5, a6], [.long x1], f, m)) zh_X8_atPlace_49 rfl).trans ((zx_lret zh_X8_atPlace_50 rfl))
-- X9_init
theorem zh_X9_init_0 : zfe zqX9_init.i 0 = some (0, .aload_n 0, 1, 0, 0, 0) := rfl
theorem zh_X9_init_1 : zfe zqX9_init.i 1 = some (1, .invokespecial 1, 3, 0, 0, 0) := rfl
theorem zh_X9_init_4 : zfe zqX9_init.i 4 = some (4, .aload_n 0, 1, 0, 0, 0) := rfl
theorem zh_X9_init_5 : zfe zqX9_init.i 5 = some (5, .new 7, 3, 1, 0, 0) := rfl
theorem zh_X9_init_8 : zfe zqX9_init.i 8 = some (8, .dup, 1, 0, 0, 0) := rfl
theorem zh_X9_init_9 : zfe zqX9_init.i 9 = some (9, .invokespecial 9, 3, 4, 1, 1) := rfl
theorem zh_X9_init_12 : zfe zqX9_init.i 12 = some (12, .putfield 10, 3, 8, 0, 1) := rfl
theorem zh_X9_init_15 : zfe zqX9_init.i 15 = some (15, .aload_n 0, 1, 0, 0, 0) := rfl
theorem zh_X9_init_16 : zfe zqX9_init.i 16 = some (16, .bipush 7, 2, 0, 0, 0) := rfl
theorem zh_X9_init_18 : zfe zqX9_init.i 18 = some (18, .newarray .int, 2, 0, 0, 0) := rfl
theorem zh_X9_init_20 : zfe zqX9_init.i 20 = some (20, .putfield 16, 3, 8, 1, 1) := rfl
theorem zh_X9_init_23 : zfe zqX9_init.i 23 = some (23, .aload_n 0, 1, 0, 0, 0) := rfl
theorem zh_X9_init_24 : zfe zqX9_init.i 24 = some (24, .new 20, 3, 5, 0, 0) := rfl
theorem zh_X9_init_27 : zfe zqX9_init.i 27 = some (27, .dup, 1, 0, 0, 0) := rfl
theorem zh_X9_init_28 : zfe zqX9_init.i 28 = some (28, .invokespecial 22, 3, 42, 1, 1) := rfl
theorem zh_X9_init_31 : zfe zqX9_init.i 31 = some (31, .putfield 23, 3, 8, 2, 1) := rfl
theorem zh_X9_init_34 : zfe zqX9_init.i 34 = some (34, .aload_n 0, 1, 0, 0, 0) := rfl
theorem zh_X9_init_35 : zfe zqX9_init.i 35 = some (35, .new 27, 3, 7, 0, 0) := rfl
theorem zh_X9_init_38 : zfe zqX9_init.i 38 = some (38, .dup, 1, 0, 0, 0) := rfl
theorem zh_X9_init_39 : zfe zqX9_init.i 39 = some (39, .invokespecial 29, 3, 64, 1, 1) := rfl
theorem zh_X9_init_42 : zfe zqX9_init.i 42 = some (42, .putfield 30, 3, 8, 3, 1) := rfl
theorem zh_X9_init_45 : zfe zqX9_init.i 45 = some (45, .aload_n 0, 1, 0, 0, 0) := rfl
theorem zh_X9_init_46 : zfe zqX9_init.i 46 = some (46, .new 34, 3, 2, 0, 0) := rfl
theorem zh_X9_init_49 : zfe zqX9_init.i 49 = some (49, .dup, 1, 0, 0, 0) := rfl
theorem zh_X9_init_50 : zfe zqX9_init.i 50 = some (50, .invokespecial 36, 3, 10, 1, 1) := rfl
theorem zh_X9_init_53 : zfe zqX9_init.i 53 = some (53, .putfield 37, 3, 8, 5, 1) := rfl
theorem zh_X9_init_56 : zfe zqX9_init.i 56 = some (56, .aload_n 0, 1, 0, 0, 0) := rfl
theorem zh_X9_init_57 : zfe zqX9_init.i 57 = some (57, .new 41, 3, 4, 0, 0) := rfl
theorem zh_X9_init_60 : zfe zqX9_init.i 60 = some (60, .dup, 1, 0, 0, 0) := rfl
theorem zh_X9_init_61 : zfe zqX9_init.i 61 = some (61, .invokespecial 43, 3, 33, 1, 1) := rfl
theorem zh_X9_init_64 : zfe zqX9_init.i 64 = some (64, .putfield 44, 3, 8, 6, 1) := rfl
theorem zh_X9_init_67 : zfe zqX9_init.i 67 = some (67, .aload_n 0, 1, 0, 0, 0) := rfl
theorem zh_X9_init_68 : zfe zqX9_init.i 68 = some (68, .bipush 12, 2, 0, 0, 0) := rfl
theorem zh_X9_init_70 : zfe zqX9_init.i 70 = some (70, .anewarray 34, 3, 0, 0, 0) := rfl
theorem zh_X9_init_73 : zfe zqX9_init.i 73 = some (73, .putfield 48, 3, 8, 8, 1) := rfl
theorem zh_X9_init_76 : zfe zqX9_init.i 76 = some (76, .iconst 0, 1, 0, 0, 0) := rfl
theorem zh_X9_init_77 : zfe zqX9_init.i 77 = some (77, .istore_n 1, 1, 0, 0, 0) := rfl
theorem zh_X9_init_78 : zfe zqX9_init.i 78 = some (78, .iload_n 1, 1, 0, 0, 0) := rfl
theorem zh_X9_init_79 : zfe zqX9_init.i 79 = some (79, .aload_n 0, 1, 0, 0, 0) := rfl
theorem zh_X9_init_80 : zfe zqX9_init.i 80 = some (80, .getfield 16, 3, 8, 1, 0) := rfl
theorem zh_X9_init_83 : zfe zqX9_init.i 83 = some (83, .arraylength, 1, 0, 0, 0) := rfl
theorem zh_X9_init_84 : zfe zqX9_init.i 84 = some (84, .if_icmp .ge 16, 3, 0, 0, 0) := rfl
theorem zh_X9_init_87 : zfe zqX9_init.i 87 = some (87, .aload_n 0, 1, 0, 0, 0) := rfl
theorem zh_X9_init_88 : zfe zqX9_init.i 88 = some (88, .getfield 16, 3, 8, 1, 0) := rfl
theorem zh_X9_init_91 : zfe zqX9_init.i 91 = some (91, .iload_n 1, 1, 0, 0, 0) := rfl
theorem zh_X9_init_92 : zfe zqX9_init.i 92 = some (92, .iconst 1, 1, 0, 0, 0) := rfl
theorem zh_X9_init_93 : zfe zqX9_init.i 93 = some (93, .iastore, 1, 0, 0, 0) := rfl
theorem zh_X9_init_94 : zfe zqX9_init.i 94 = some (94, .iinc 1 1, 3, 0, 0, 0) := rfl
theorem zh_X9_init_97 : zfe zqX9_init.i 97 = some (97, .goto (-19), 3, 0, 0, 0) := rfl
theorem zh_X9_init_100 : zfe zqX9_init.i 100 = some (100, .iconst 0, 1, 0, 0, 0) := rfl
theorem zh_X9_init_101 : zfe zqX9_init.i 101 = some (101, .istore_n 1, 1, 0, 0, 0) := rfl
theorem zh_X9_init_102 : zfe zqX9_init.i 102 = some (102, .iload_n 1, 1, 0, 0, 0) := rfl
theorem zh_X9_init_103 : zfe zqX9_init.i 103 = some (103, .aload_n 0, 1, 0, 0, 0) := rfl
theorem zh_X9_init_104 : zfe zqX9_init.i 104 = some (104, .getfield 48, 3, 8, 8, 0) := rfl
theorem zh_X9_init_107 : zfe zqX9_init.i 107 = some (107, .arraylength, 1, 0, 0, 0) := rfl
theorem zh_X9_init_108 : zfe zqX9_init.i 108 = some (108, .if_icmp .ge 22, 3, 0, 0, 0) := rfl
theorem zh_X9_init_111 : zfe zqX9_init.i 111 = some (111, .aload_n 0, 1, 0, 0, 0) := rfl
theorem zh_X9_init_112 : zfe zqX9_init.i 112 = some (112, .getfield 48, 3, 8, 8, 0) := rfl
theorem zh_X9_init_115 : zfe zqX9_init.i 115 = some (115, .iload_n 1, 1, 0, 0, 0) := rfl
theorem zh_X9_init_116 : zfe zqX9_init.i 116 = some (116, .new 34, 3, 2, 0, 0) := rfl
theorem zh_X9_init_119 : zfe zqX9_init.i 119 = some (119, .dup, 1, 0, 0, 0) := rfl
theorem zh_X9_init_120 : zfe zqX9_init.i 120 = some (120, .invokespecial 36, 3, 10, 1, 1) := rfl
theorem zh_X9_init_123 : zfe zqX9_init.i 123 = some (123, .aastore, 1, 0, 0, 0) := rfl
theorem zh_X9_init_124 : zfe zqX9_init.i 124 = some (124, .iinc 1 1, 3, 0, 0, 0) := rfl
theorem zh_X9_init_127 : zfe zqX9_init.i 127 = some (127, .goto (-25), 3, 0, 0, 0) := rfl
theorem zh_X9_init_130 : zfe zqX9_init.i 130 = some (130, .return_, 1, 0, 0, 0) := rfl
theorem ze_X9_init_0 {d : Nat} {f : zF} {nx kk n : Nat} {x0 : Nat} {a1 : Value} : zex zTb d zqX9_init 0 [.ref x0, a1] [] f (some nx, kk, n) = zex zTb d zqX9_init 8 [.ref x0, a1] [.ref nx, .ref x0] (zup f nx (.inr (1, zdf 1))) (some (nx + 1), kk + 1, n + 5) := (zxl_go (x := (1, [.ref x0, a1], [.ref x0], f, (some nx, kk, n))) zh_X9_init_0 rfl).trans ((zx_objinit zh_X9_init_1 (Nat.le_of_ble_eq_true rfl)).trans ((zxl_go (x := (5, [.ref x0, a1], [.ref x0], f, (some nx, kk, n))) zh_X9_init_4 rfl).trans ((zx_new zh_X9_init_5 (by decide)))))
theorem ze_X9_init_8 {d : Nat} {f : zF} {m : zM} {a0 a1 : Value} {y0 y1 : Nat} : zex zTb d zqX9_init 8 [a0, a1] [.ref y1, .ref y0] f m = zcalI zTb (zrun zTb d 4 [.ref y1] f m) d zqX9_init 12 [a0, a1] [.ref y1, .ref y0] := (zxl_go (x := (9, [a0, a1], [.ref y1, .ref y1, .ref y0], f, m)) zh_X9_init_8 rfl).trans (((zx_special zh_X9_init_9 (by decide) (Nat.le_of_ble_eq_true rfl) rfl rfl).trans (if_pos (Nat.le_of_ble_eq_true rfl))))
theorem ze_X9_init_12 {d : Nat} {f : zF} {m : zM} {a0 a1 : Value} {y0 y1 : Nat} : zex zTb d zqX9_init 12 [a0, a1] [.ref y1, .ref y0] f m = if (zco (f y0) 8 0 && zok (zfty 8 0) (.ref y1)) = true then zex zTb d zqX9_init 15 [a0, a1] [] (zup f y0 (zcs (f y0) 0 (.ref y1))) m else none := (zx_putfield zh_X9_init_12)
theorem ze_X9_init_15 {d : Nat} {f : zF} {nx kk n : Nat} {x0 : Nat} {a1 : Value} : zex zTb d zqX9_init 15 [.ref x0, a1] [] f (some nx, kk, n) = zex zTb d zqX9_init 20 [.ref x0, a1] [.ref nx, .ref x0] (zup f nx (.inl (0, (7, .inl (fun _ => 0))))) (some (nx + 1), kk + 1, n + 7) := (zxl_go (x := (16, [.ref x0, a1], [.ref x0], f, (some nx, kk, n))) zh_X9_init_15 rfl).trans ((zx_bipush zh_X9_init_16 (by decide)).trans ((zx_newarr (N := 7) zh_X9_init_18 rfl (by decide) (by decide))))
theorem ze_X9_init_20 {d : Nat} {f : zF} {m : zM} {a0 a1 : Value} {y0 y1 : Nat} : zex zTb d zqX9_init 20 [a0, a1] [.ref y1, .ref y0] f m = if (zco (f y0) 8 1 && zok (zfty 8 1) (.ref y1)) = true then zex zTb d zqX9_init 23 [a0, a1] [] (zup f y0 (zcs (f y0) 1 (.ref y1))) m else none := (zx_putfield zh_X9_init_20)
theorem ze_X9_init_23 {d : Nat} {f : zF} {nx kk n : Nat} {x0 : Nat} {a1 : Value} : zex zTb d zqX9_init 23 [.ref x0, a1] [] f (some nx, kk, n) = zex zTb d zqX9_init 27 [.ref x0, a1] [.ref nx, .ref x0] (zup f nx (.inr (5, zdf 5))) (some (nx + 1), kk + 1, n + 5) := (zxl_go (x := (24, [.ref x0, a1], [.ref x0], f, (some nx, kk, n))) zh_X9_init_23 rfl).trans ((zx_new zh_X9_init_24 (by decide)))
theorem ze_X9_init_27 {d : Nat} {f : zF} {m : zM} {a0 a1 : Value} {y0 y1 : Nat} : zex zTb d zqX9_init 27 [a0, a1] [.ref y1, .ref y0] f m = zcalI zTb (zrun zTb d 42 [.ref y1] f m) d zqX9_init 31 [a0, a1] [.ref y1, .ref y0] := (zxl_go (x := (28, [a0, a1], [.ref y1, .ref y1, .ref y0], f, m)) zh_X9_init_27 rfl).trans (((zx_special zh_X9_init_28 (by decide) (Nat.le_of_ble_eq_true rfl) rfl rfl).trans (if_pos (Nat.le_of_ble_eq_true rfl))))
theorem ze_X9_init_31 {d : Nat} {f : zF} {m : zM} {a0 a1 : Value} {y0 y1 : Nat} : zex zTb d zqX9_init 31 [a0, a1] [.ref y1, .ref y0] f m = if (zco (f y0) 8 2 && zok (zfty 8 2) (.ref y1)) = true then zex zTb d zqX9_init 34 [a0, a1] [] (zup f y0 (zcs (f y0) 2 (.ref y1))) m else none := (zx_putfield zh_X9_init_31)
theorem ze_X9_init_34 {d : Nat} {f : zF} {nx kk n : Nat} {x0 : Nat} {a1 : Value} : zex zTb d zqX9_init 34 [.ref x0, a1] [] f (some nx, kk, n) = zex zTb d zqX9_init 38 [.ref x0, a1] [.ref nx, .ref x0] (zup f nx (.inr (7, zdf 7))) (some (nx + 1), kk + 1, n + 3) := (zxl_go (x := (35, [.ref x0, a1], [.ref x0], f, (some nx, kk, n))) zh_X9_init_34 rfl).trans ((zx_new zh_X9_init_35 (by decide)))
theorem ze_X9_init_38 {d : Nat} {f : zF} {m : zM} {a0 a1 : Value} {y0 y1 : Nat} : zex zTb d zqX9_init 38 [a0, a1] [.ref y1, .ref y0] f m = zcalI zTb (zrun zTb d 64 [.ref y1] f m) d zqX9_init 42 [a0, a1] [.ref y1, .ref y0] := (zxl_go (x := (39, [a0, a1], [.ref y1, .ref y1, .ref y0], f, m)) zh_X9_init_38 rfl).trans (((zx_special zh_X9_init_39 (by decide) (Nat.le_of_ble_eq_true rfl) rfl rfl).trans (if_pos (Nat.le_of_ble_eq_true rfl))))
theorem ze_X9_init_42 {d : Nat} {f : zF} {m : zM} {a0 a1 : Value} {y0 y1 : Nat} : zex zTb d zqX9_init 42 [a0, a1] [.ref y1, .ref y0] f m = if (zco (f y0) 8 3 && zok (zfty 8 3) (.ref y1)) = true then zex zTb d zqX9_init 45 [a0, a1] [] (zup f y0 (zcs (f y0) 3 (.ref y1))) m else none := (zx_putfield zh_X9_init_42)
theorem ze_X9_init_45 {d : Nat} {f : zF} {nx kk n : Nat} {x0 : Nat} {a1 : Value} : zex zTb d zqX9_init 45 [.ref x0, a1] [] f (some nx, kk, n) = zex zTb d zqX9_init 49 [.ref x0, a1] [.ref nx, .ref x0] (zup f nx (.inr (2, zdf 2))) (some (nx + 1), kk + 1, n + 4) := (zxl_go (x := (46, [.ref x0, a1], [.ref x0], f, (some nx, kk, n))) zh_X9_init_45 rfl).trans ((zx_new zh_X9_init_46 (by decide)))
theorem ze_X9_init_49 {d : Nat} {f : zF} {m : zM} {a0 a1 : Value} {y0 y1 : Nat} : zex zTb d zqX9_init 49 [a0, a1] [.ref y1, .ref y0] f m = zcalI zTb (zrun zTb d 10 [.ref y1] f m) d zqX9_init 53 [a0, a1] [.ref y1, .ref y0] := (zxl_go (x := (50, [a0, a1], [.ref y1, .ref y1, .ref y0], f, m)) zh_X9_init_49 rfl).trans (((zx_special zh_X9_init_50 (by decide) (Nat.le_of_ble_eq_true rfl) rfl rfl).trans (if_pos (Nat.le_of_ble_eq_true rfl))))
theorem ze_X9_init_53 {d : Nat} {f : zF} {m : zM} {a0 a1 : Value} {y0 y1 : Nat} : zex zTb d zqX9_init 53 [a0, a1] [.ref y1, .ref y0] f m = if (zco (f y0) 8 5 && zok (zfty 8 5) (.ref y1)) = true then zex zTb d zqX9_init 56 [a0, a1] [] (zup f y0 (zcs (f y0) 5 (.ref y1))) m else none := (zx_putfield zh_X9_init_53)
theorem ze_X9_init_56 {d : Nat} {f : zF} {nx kk n : Nat} {x0 : Nat} {a1 : Value} : zex zTb d zqX9_init 56 [.ref x0, a1] [] f (some nx, kk, n) = zex zTb d zqX9_init 60 [.ref x0, a1] [.ref nx, .ref x0] (zup f nx (.inr (4, zdf 4))) (some (nx + 1), kk + 1, n + 4) := (zxl_go (x := (57, [.ref x0, a1], [.ref x0], f, (some nx, kk, n))) zh_X9_init_56 rfl).trans ((zx_new zh_X9_init_57 (by decide)))
theorem ze_X9_init_60 {d : Nat} {f : zF} {m : zM} {a0 a1 : Value} {y0 y1 : Nat} : zex zTb d zqX9_init 60 [a0, a1] [.ref y1, .ref y0] f m = zcalI zTb (zrun zTb d 33 [.ref y1] f m) d zqX9_init 64 [a0, a1] [.ref y1, .ref y0] := (zxl_go (x := (61, [a0, a1], [.ref y1, .ref y1, .ref y0], f, m)) zh_X9_init_60 rfl).trans (((zx_special zh_X9_init_61 (by decide) (Nat.le_of_ble_eq_true rfl) rfl rfl).trans (if_pos (Nat.le_of_ble_eq_true rfl))))
theorem ze_X9_init_64 {d : Nat} {f : zF} {m : zM} {a0 a1 : Value} {y0 y1 : Nat} : zex zTb d zqX9_init 64 [a0, a1] [.ref y1, .ref y0] f m = if (zco (f y0) 8 6 && zok (zfty 8 6) (.ref y1)) = true then zex zTb d zqX9_init 67 [a0, a1] [] (zup f y0 (zcs (f y0) 6 (.ref y1))) m else none := (zx_putfield zh_X9_init_64)
theorem ze_X9_init_67 {d : Nat} {f : zF} {nx kk n : Nat} {x0 : Nat} {a1 : Value} : zex zTb d zqX9_init 67 [.ref x0, a1] [] f (some nx, kk, n) = zex zTb d zqX9_init 73 [.ref x0, a1] [.ref nx, .ref x0] (zup f nx (.inl (5, (12, .inr (.inr (.inr (.inr (fun _ => none)))))))) (some (nx + 1), kk + 1, n + 12) := (zxl_go (x := (68, [.ref x0, a1], [.ref x0], f, (some nx, kk, n))) zh_X9_init_67 rfl).trans ((zx_bipush zh_X9_init_68 (by decide)).trans ((zx_anew (N := 12) zh_X9_init_70 (by decide) (by decide))))
theorem ze_X9_init_73 {d : Nat} {f : zF} {m : zM} {a0 a1 : Value} {y0 y1 : Nat} : zex zTb d zqX9_init 73 [a0, a1] [.ref y1, .ref y0] f m = if (zco (f y0) 8 8 && zok (zfty 8 8) (.ref y1)) = true then zex zTb d zqX9_init 76 [a0, a1] [] (zup f y0 (zcs (f y0) 8 (.ref y1))) m else none := (zx_putfield zh_X9_init_73)
theorem ze_X9_init_76 {d : Nat} {f : zF} {m : zM} {a0 a1 : Value} : zex zTb d zqX9_init 76 [a0, a1] [] f m = zex zTb d zqX9_init 78 [(zclr a0), .int (I 0)] [] f m := (zx_iconst zh_X9_init_76).trans ((zxl_go (x := (78, [(zclr a0), .int (I 0)], [], f, m)) zh_X9_init_77 rfl))
theorem ze_X9_init_78 {d : Nat} {f : zF} {m : zM} {x0 : Nat} {x1 : Int32} : zex zTb d zqX9_init 78 [.ref x0, .int x1] [] f m = if zco (f x0) 8 1 = true then zex zTb d zqX9_init 83 [.ref x0, .int x1] [zcf (f x0) 1, .int x1] f m else none := (zxl_go (x := (79, [.ref x0, .int x1], [.int x1], f, m)) zh_X9_init_78 rfl).trans ((zxl_go (x := (80, [.ref x0, .int x1], [.ref x0, .int x1], f, m)) zh_X9_init_79 rfl).trans ((zx_getfield zh_X9_init_80)))
theorem ze_X9_init_83 {d : Nat} {f : zF} {m : zM} {a0 a1 : Value} {y0 : Int32} {y1 : Nat} : zex zTb d zqX9_init 83 [a0, a1] [.ref y1, .int y0] f m = if zisa (f y1) = true then zex zTb d zqX9_init 84 [a0, a1] [.int (Int32.ofNat (zln (f y1))), .int y0] f m else none := (zx_alen zh_X9_init_83)
theorem ze_X9_init_84 {d : Nat} {f : zF} {m : zM} {a0 a1 : Value} {y0 y1 : Int32} : zex zTb d zqX9_init 84 [a0, a1] [.int y1, .int y0] f m = if zc2 .ge y0 y1 = true then zex zTb d zqX9_init 100 [a0, a1] [] f m else zex zTb d zqX9_init 87 [a0, a1] [] f m := (zx_icmp (tgt := 100) zh_X9_init_84 rfl)
theorem ze_X9_init_87 {d : Nat} {f : zF} {m : zM} {x0 : Nat} {a1 : Value} : zex zTb d zqX9_init 87 [.ref x0, a1] [] f m = if zco (f x0) 8 1 = true then zex zTb d zqX9_init 91 [.ref x0, a1] [zcf (f x0) 1] f m else none := (zxl_go (x := (88, [.ref x0, a1], [.ref x0], f, m)) zh_X9_init_87 rfl).trans ((zx_getfield zh_X9_init_88))
theorem ze_X9_init_91 {d : Nat} {f : zF} {m : zM} {a0 : Value} {x1 : Int32} {y0 : Nat} : zex zTb d zqX9_init 91 [a0, .int x1] [.ref y0] f m = if zri (f y0) 0 x1 = true then zex zTb d zqX9_init 94 [a0, .int x1] [] (zup f y0 (zwi (f y0) 0 x1.toNatClampNeg (I 1))) m else none := (zxl_go (x := (92, [a0, .int x1], [.int x1, .ref y0], f, m)) zh_X9_init_91 rfl).trans ((zx_iconst zh_X9_init_92).trans ((zx_iastore zh_X9_init_93)))
theorem ze_X9_init_94 {d : Nat} {f : zF} {m : zM} {a0 : Value} {x1 : Int32} : zex zTb d zqX9_init 94 [a0, .int x1] [] f m = zex zTb d zqX9_init 78 [(zclr a0), .int (x1 + I 1)] [] f m := (zxl_go (x := (97, [(zclr a0), .int (x1 + I 1)], [], f, m)) zh_X9_init_94 rfl).trans ((zx_goto zh_X9_init_97 rfl))
theorem ze_X9_init_100 {d : Nat} {f : zF} {m : zM} {a0 a1 : Value} : zex zTb d zqX9_init 100 [a0, a1] [] f m = zex zTb d zqX9_init 102 [(zclr a0), .int (I 0)] [] f m := (zx_iconst zh_X9_init_100).trans ((zxl_go (x := (102, [(zclr a0), .int (I 0)], [], f, m)) zh_X9_init_101 rfl))
theorem ze_X9_init_102 {d : Nat} {f : zF} {m : zM} {x0 : Nat} {x1 : Int32} : zex zTb d zqX9_init 102 [.ref x0, .int x1] [] f m = if zco (f x0) 8 8 = true then zex zTb d zqX9_init 107 [.ref x0, .int x1] [zcf (f x0) 8, .int x1] f m else none := (zxl_go (x := (103, [.ref x0, .int x1], [.int x1], f, m)) zh_X9_init_102 rfl).trans ((zxl_go (x := (104, [.ref x0, .int x1], [.ref x0, .int x1], f, m)) zh_X9_init_103 rfl).trans ((zx_getfield zh_X9_init_104)))
theorem ze_X9_init_107 {d : Nat} {f : zF} {m : zM} {a0 a1 : Value} {y0 : Int32} {y1 : Nat} : zex zTb d zqX9_init 107 [a0, a1] [.ref y1, .int y0] f m = if zisa (f y1) = true then zex zTb d zqX9_init 108 [a0, a1] [.int (Int32.ofNat (zln (f y1))), .int y0] f m else none := (zx_alen zh_X9_init_107)
theorem ze_X9_init_108 {d : Nat} {f : zF} {m : zM} {a0 a1 : Value} {y0 y1 : Int32} : zex zTb d zqX9_init 108 [a0, a1] [.int y1, .int y0] f m = if zc2 .ge y0 y1 = true then zex zTb d zqX9_init 130 [a0, a1] [] f m else zex zTb d zqX9_init 111 [a0, a1] [] f m := (zx_icmp (tgt := 130) zh_X9_init_108 rfl)
theorem ze_X9_init_111 {d : Nat} {f : zF} {m : zM} {x0 : Nat} {a1 : Value} : zex zTb d zqX9_init 111 [.ref x0, a1] [] f m = if zco (f x0) 8 8 = true then zex zTb d zqX9_init 115 [.ref x0, a1] [zcf (f x0) 8] f m else none := (zxl_go (x := (112, [.ref x0, a1], [.ref x0], f, m)) zh_X9_init_111 rfl).trans ((zx_getfield zh_X9_init_112))
theorem ze_X9_init_115 {d : Nat} {f : zF} {nx kk n : Nat} {a0 : Value} {x1 : Int32} {y0 : Nat} : zex zTb d zqX9_init 115 [a0, .int x1] [.ref y0] f (some nx, kk, n) = zex zTb d zqX9_init 119 [a0, .int x1] [.ref nx, .int x1, .ref y0] (zup f nx (.inr (2, zdf 2))) (some (nx + 1), kk + 1, n + 4) := (zxl_go (x := (116, [a0, .int x1], [.int x1, .ref y0], f, (some nx, kk, n))) zh_X9_init_115 rfl).trans ((zx_new zh_X9_init_116 (by decide)))
theorem ze_X9_init_119 {d : Nat} {f : zF} {m : zM} {a0 a1 : Value} {y0 y2 : Nat} {y1 : Int32} : zex zTb d zqX9_init 119 [a0, a1] [.ref y2, .int y1, .ref y0] f m = zcalI zTb (zrun zTb d 10 [.ref y2] f m) d zqX9_init 123 [a0, a1] [.ref y2, .int y1, .ref y0] := (zxl_go (x := (120, [a0, a1], [.ref y2, .ref y2, .int y1, .ref y0], f, m)) zh_X9_init_119 rfl).trans (((zx_special zh_X9_init_120 (by decide) (Nat.le_of_ble_eq_true rfl) rfl rfl).trans (if_pos (Nat.le_of_ble_eq_true rfl))))
theorem ze_X9_init_123 {d : Nat} {f : zF} {m : zM} {a0 a1 : Value} {y0 y2 : Nat} {y1 : Int32} : zex zTb d zqX9_init 123 [a0, a1] [.ref y2, .int y1, .ref y0] f m = if zrs (f y0) (f y2) y1 = true then zex zTb d zqX9_init 124 [a0, a1] [] (zup f y0 (zwq (f y0) y1.toNatClampNeg y2)) m else none := (zx_aastore zh_X9_init_123)
theorem ze_X9_init_124 {d : Nat} {f : zF} {m : zM} {a0 : Value} {x1 : Int32} : zex zTb d zqX9_init 124 [a0, .int x1] [] f m = zex zTb d zqX9_init 102 [(zclr a0), .int (x1 + I 1)] [] f m := (zxl_go (x := (127, [(zclr a0), .int (x1 + I 1)], [], f, m)) zh_X9_init_124 rfl).trans ((zx_goto zh_X9_init_127 rfl))
theorem ze_X9_init_130 {d : Nat} {f : zF} {m : zM} {a0 a1 : Value} : zex zTb d zqX9_init 130 [a0, a1] [] f m = some (.inl none, f, m) := (zx_ret zh_X9_init_130 rfl)
-- X9_add
theorem zh_X9_add_0 : zfe zqX9_add.i 0 = some (0, .lload_n 1, 1, 0, 0, 0) := rfl
theorem zh_X9_add_1 : zfe zqX9_add.i 1 = some (1, .invokestatic 52, 3, 71, 1, 0) := rfl
theorem zh_X9_add_4 : zfe zqX9_add.i 4 = some (4, .ifCond .ne 13, 3, 0, 0, 0) := rfl
theorem zh_X9_add_7 : zfe zqX9_add.i 7 = some (7, .new 58, 3, 0, 61, 62) := rfl
theorem zh_X9_add_17 : zfe zqX9_add.i 17 = some (17, .aload_n 0, 1, 0, 0, 0) := rfl
theorem zh_X9_add_18 : zfe zqX9_add.i 18 = some (18, .getfield 10, 3, 8, 0, 0) := rfl
theorem zh_X9_add_21 : zfe zqX9_add.i 21 = some (21, .lload_n 1, 1, 0, 0, 0) := rfl
theorem zh_X9_add_22 : zfe zqX9_add.i 22 = some (22, .invokestatic 65, 3, 72, 1, 0) := rfl
theorem zh_X9_add_25 : zfe zqX9_add.i 25 = some (25, .iload_n 3, 1, 0, 0, 0) := rfl
theorem zh_X9_add_26 : zfe zqX9_add.i 26 = some (26, .invokevirtual 69, 3, 6, 3, 1) := rfl
theorem zh_X9_add_29 : zfe zqX9_add.i 29 = some (29, .ifCond .ne 13, 3, 0, 0, 0) := rfl
theorem zh_X9_add_32 : zfe zqX9_add.i 32 = some (32, .new 73, 3, 1, 76, 77) := rfl
theorem zh_X9_add_42 : zfe zqX9_add.i 42 = some (42, .aload_n 0, 1, 0, 0, 0) := rfl
theorem zh_X9_add_43 : zfe zqX9_add.i 43 = some (43, .iconst 0, 1, 0, 0, 0) := rfl
theorem zh_X9_add_44 : zfe zqX9_add.i 44 = some (44, .putfield 78, 3, 8, 4, 0) := rfl
theorem zh_X9_add_47 : zfe zqX9_add.i 47 = some (47, .aload_n 0, 1, 0, 0, 0) := rfl
theorem zh_X9_add_48 : zfe zqX9_add.i 48 = some (48, .getfield 10, 3, 8, 0, 0) := rfl
theorem zh_X9_add_51 : zfe zqX9_add.i 51 = some (51, .getfield 82, 3, 1, 2, 0) := rfl
theorem zh_X9_add_54 : zfe zqX9_add.i 54 = some (54, .iconst 1, 1, 0, 0, 0) := rfl
theorem zh_X9_add_55 : zfe zqX9_add.i 55 = some (55, .isub, 1, 0, 0, 0) := rfl
theorem zh_X9_add_56 : zfe zqX9_add.i 56 = some (56, .ireturn, 1, 0, 0, 0) := rfl
theorem ze_X9_add_0 {d : Nat} {f : zF} {m : zM} {a0 a2 a3 : Value} {x1 : Int64} : zex zTb d zqX9_add 0 [a0, .long x1, a2, a3] [] f m = zcal zTb (zrun zTb d 71 [.long x1] f m) d zqX9_add 1 4 [a0, .long x1, a2, a3] [] := (zxl_go (x := (1, [a0, .long x1, a2, a3], [.long x1], f, m)) zh_X9_add_0 rfl).trans (((zx_static zh_X9_add_1 (Nat.le_of_ble_eq_true rfl) rfl rfl).trans (if_pos (Nat.le_of_ble_eq_true rfl))))
theorem ze_X9_add_4 {d : Nat} {f : zF} {m : zM} {a0 a1 a2 a3 : Value} {y0 : Int32} : zex zTb d zqX9_add 4 [a0, a1, a2, a3] [.int y0] f m = if zc1 .ne y0 = true then zex zTb d zqX9_add 17 [a0, a1, a2, a3] [] f m else zex zTb d zqX9_add 7 [a0, a1, a2, a3] [] f m := (zx_if (tgt := 17) zh_X9_add_4 rfl)
theorem ze_X9_add_7 {d : Nat} {f : zF} {m : zM} {a0 a1 a2 a3 : Value} : zex zTb d zqX9_add 7 [a0, a1, a2, a3] [] f m = some (.inr 0, f, (none, m.2.1 + 1, m.2.2 + 6)) := (zx_throw zh_X9_add_7 (Nat.le_of_ble_eq_true rfl))
theorem ze_X9_add_17 {d : Nat} {f : zF} {m : zM} {x0 : Nat} {a1 a2 a3 : Value} : zex zTb d zqX9_add 17 [.ref x0, a1, a2, a3] [] f m = if zco (f x0) 8 0 = true then zex zTb d zqX9_add 21 [.ref x0, a1, a2, a3] [zcf (f x0) 0] f m else none := (zxl_go (x := (18, [.ref x0, a1, a2, a3], [.ref x0], f, m)) zh_X9_add_17 rfl).trans ((zx_getfield zh_X9_add_18))
theorem ze_X9_add_21 {d : Nat} {f : zF} {m : zM} {a0 a2 a3 : Value} {x1 : Int64} {y0 : Nat} : zex zTb d zqX9_add 21 [a0, .long x1, a2, a3] [.ref y0] f m = zcal zTb (zrun zTb d 72 [.long x1] f m) d zqX9_add 22 25 [a0, .long x1, a2, a3] [.ref y0] := (zxl_go (x := (22, [a0, .long x1, a2, a3], [.long x1, .ref y0], f, m)) zh_X9_add_21 rfl).trans (((zx_static zh_X9_add_22 (Nat.le_of_ble_eq_true rfl) rfl rfl).trans (if_pos (Nat.le_of_ble_eq_true rfl))))
theorem ze_X9_add_25 {d : Nat} {f : zF} {m : zM} {a0 a1 a2 : Value} {x3 : Int32} {y0 : Nat} {y1 : Int64} : zex zTb d zqX9_add 25 [a0, a1, a2, .int x3] [.long y1, .ref y0] f m = if zisc (f y0) 1 = true then zcal zTb (zrun zTb d 6 [.ref y0, .long y1, .int x3] f m) d zqX9_add 26 29 [a0, a1, a2, .int x3] [] else none := (zxl_go (x := (26, [a0, a1, a2, .int x3], [.int x3, .long y1, .ref y0], f, m)) zh_X9_add_25 rfl).trans ((zx_virtual4 zh_X9_add_26 (Nat.le_of_ble_eq_true rfl) rfl rfl (Nat.le_of_ble_eq_true rfl)))
theorem ze_X9_add_29 {d : Nat} {f : zF} {m : zM} {a0 a1 a2 a3 : Value} {y0 : Int32} : zex zTb d zqX9_add 29 [a0, a1, a2, a3] [.int y0] f m = if zc1 .ne y0 = true then zex zTb d zqX9_add 42 [a0, a1, a2, a3] [] f m else zex zTb d zqX9_add 32 [a0, a1, a2, a3] [] f m := (zx_if (tgt := 42) zh_X9_add_29 rfl)
theorem ze_X9_add_32 {d : Nat} {f : zF} {m : zM} {a0 a1 a2 a3 : Value} : zex zTb d zqX9_add 32 [a0, a1, a2, a3] [] f m = some (.inr 1, f, (none, m.2.1 + 1, m.2.2 + 6)) := (zx_throw zh_X9_add_32 (Nat.le_of_ble_eq_true rfl))
theorem ze_X9_add_42 {d : Nat} {f : zF} {m : zM} {x0 : Nat} {a1 a2 a3 : Value} : zex zTb d zqX9_add 42 [.ref x0, a1, a2, a3] [] f m = if (zco (f x0) 8 4 && zok (zfty 8 4) (.int (I 0))) = true then zex zTb d zqX9_add 47 [.ref x0, a1, a2, a3] [] (zup f x0 (zcs (f x0) 4 (.int (I 0)))) m else none := (zxl_go (x := (43, [.ref x0, a1, a2, a3], [.ref x0], f, m)) zh_X9_add_42 rfl).trans ((zx_iconst zh_X9_add_43).trans ((zx_putfield zh_X9_add_44)))
theorem ze_X9_add_47 {d : Nat} {f : zF} {m : zM} {x0 : Nat} {a1 a2 a3 : Value} : zex zTb d zqX9_add 47 [.ref x0, a1, a2, a3] [] f m = if zco (f x0) 8 0 = true then zex zTb d zqX9_add 51 [.ref x0, a1, a2, a3] [zcf (f x0) 0] f m else none := (zxl_go (x := (48, [.ref x0, a1, a2, a3], [.ref x0], f, m)) zh_X9_add_47 rfl).trans ((zx_getfield zh_X9_add_48))
theorem ze_X9_add_51 {d : Nat} {f : zF} {m : zM} {a0 a1 a2 a3 : Value} {y0 : Nat} : zex zTb d zqX9_add 51 [a0, a1, a2, a3] [.ref y0] f m = if zco (f y0) 1 2 = true then zex zTb d zqX9_add 54 [a0, a1, a2, a3] [zcf (f y0) 2] f m else none := (zx_getfield zh_X9_add_51)
theorem ze_X9_add_54 {d : Nat} {f : zF} {m : zM} {a0 a1 a2 a3 : Value} {y0 : Int32} : zex zTb d zqX9_add 54 [a0, a1, a2, a3] [.int y0] f m = some (.inl (some (.int (y0 - (I 1)))), f, m) := (zx_iconst zh_X9_add_54).trans ((zxl_go (x := (56, [a0, a1, a2, a3], [.int (y0 - (I 1))], f, m)) zh_X9_add_55 rfl).trans ((zx_iret zh_X9_add_56 (by first | rfl | decide))))
-- X9_mark
theorem zh_X9_mark_0 : zfe zqX9_mark.i 0 = some (0, .aload_n 0, 1, 0, 0, 0) := rfl
theorem zh_X9_mark_1 : zfe zqX9_mark.i 1 = some (1, .getfield 10, 3, 8, 0, 0) := rfl
theorem zh_X9_mark_4 : zfe zqX9_mark.i 4 = some (4, .iload_n 1, 1, 0, 0, 0) := rfl
theorem zh_X9_mark_5 : zfe zqX9_mark.i 5 = some (5, .invokevirtual 86, 3, 5, 2, 1) := rfl
theorem zh_X9_mark_8 : zfe zqX9_mark.i 8 = some (8, .ifCond .ne 13, 3, 0, 0, 0) := rfl
theorem zh_X9_mark_11 : zfe zqX9_mark.i 11 = some (11, .new 90, 3, 2, 93, 94) := rfl
theorem zh_X9_mark_21 : zfe zqX9_mark.i 21 = some (21, .aload_n 0, 1, 0, 0, 0) := rfl
theorem zh_X9_mark_22 : zfe zqX9_mark.i 22 = some (22, .getfield 10, 3, 8, 0, 0) := rfl
theorem zh_X9_mark_25 : zfe zqX9_mark.i 25 = some (25, .getfield 95, 3, 1, 1, 0) := rfl
theorem zh_X9_mark_28 : zfe zqX9_mark.i 28 = some (28, .iload_n 1, 1, 0, 0, 0) := rfl
theorem zh_X9_mark_29 : zfe zqX9_mark.i 29 = some (29, .baload, 1, 0, 0, 0) := rfl
theorem zh_X9_mark_30 : zfe zqX9_mark.i 30 = some (30, .istore_n 3, 1, 0, 0, 0) := rfl
theorem zh_X9_mark_31 : zfe zqX9_mark.i 31 = some (31, .aload_n 0, 1, 0, 0, 0) := rfl
theorem zh_X9_mark_32 : zfe zqX9_mark.i 32 = some (32, .getfield 10, 3, 8, 0, 0) := rfl
theorem zh_X9_mark_35 : zfe zqX9_mark.i 35 = some (35, .getfield 95, 3, 1, 1, 0) := rfl
theorem zh_X9_mark_38 : zfe zqX9_mark.i 38 = some (38, .iload_n 1, 1, 0, 0, 0) := rfl
theorem zh_X9_mark_39 : zfe zqX9_mark.i 39 = some (39, .iload_n 2, 1, 0, 0, 0) := rfl
theorem zh_X9_mark_40 : zfe zqX9_mark.i 40 = some (40, .bastore, 1, 0, 0, 0) := rfl
theorem zh_X9_mark_41 : zfe zqX9_mark.i 41 = some (41, .aload_n 0, 1, 0, 0, 0) := rfl
theorem zh_X9_mark_42 : zfe zqX9_mark.i 42 = some (42, .iconst 0, 1, 0, 0, 0) := rfl
theorem zh_X9_mark_43 : zfe zqX9_mark.i 43 = some (43, .putfield 78, 3, 8, 4, 0) := rfl
theorem zh_X9_mark_46 : zfe zqX9_mark.i 46 = some (46, .iload_n 3, 1, 0, 0, 0) := rfl
theorem zh_X9_mark_47 : zfe zqX9_mark.i 47 = some (47, .ireturn, 1, 0, 0, 0) := rfl
theorem ze_X9_mark_0 {d : Nat} {f : zF} {m : zM} {x0 : Nat} {a1 a2 a3 : Value} : zex zTb d zqX9_mark 0 [.ref x0, a1, a2, a3] [] f m = if zco (f x0) 8 0 = true then zex zTb d zqX9_mark 4 [.ref x0, a1, a2, a3] [zcf (f x0) 0] f m else none := (zxl_go (x := (1, [.ref x0, a1, a2, a3], [.ref x0], f, m)) zh_X9_mark_0 rfl).trans ((zx_getfield zh_X9_mark_1))
theorem ze_X9_mark_4 {d : Nat} {f : zF} {m : zM} {a0 a2 a3 : Value} {x1 : Int32} {y0 : Nat} : zex zTb d zqX9_mark 4 [a0, .int x1, a2, a3] [.ref y0] f m = if zisc (f y0) 1 = true then zcal zTb (zrun zTb d 5 [.ref y0, .int x1] f m) d zqX9_mark 5 8 [a0, .int x1, a2, a3] [] else none := (zxl_go (x := (5, [a0, .int x1, a2, a3], [.int x1, .ref y0], f, m)) zh_X9_mark_4 rfl).trans ((zx_virtual4 zh_X9_mark_5 (Nat.le_of_ble_eq_true rfl) rfl rfl (Nat.le_of_ble_eq_true rfl)))
theorem ze_X9_mark_8 {d : Nat} {f : zF} {m : zM} {a0 a1 a2 a3 : Value} {y0 : Int32} : zex zTb d zqX9_mark 8 [a0, a1, a2, a3] [.int y0] f m = if zc1 .ne y0 = true then zex zTb d zqX9_mark 21 [a0, a1, a2, a3] [] f m else zex zTb d zqX9_mark 11 [a0, a1, a2, a3] [] f m := (zx_if (tgt := 21) zh_X9_mark_8 rfl)
theorem ze_X9_mark_11 {d : Nat} {f : zF} {m : zM} {a0 a1 a2 a3 : Value} : zex zTb d zqX9_mark 11 [a0, a1, a2, a3] [] f m = some (.inr 2, f, (none, m.2.1 + 1, m.2.2 + 6)) := (zx_throw zh_X9_mark_11 (Nat.le_of_ble_eq_true rfl))
theorem ze_X9_mark_21 {d : Nat} {f : zF} {m : zM} {x0 : Nat} {a1 a2 a3 : Value} : zex zTb d zqX9_mark 21 [.ref x0, a1, a2, a3] [] f m = if zco (f x0) 8 0 = true then zex zTb d zqX9_mark 25 [.ref x0, a1, a2, a3] [zcf (f x0) 0] f m else none := (zxl_go (x := (22, [.ref x0, a1, a2, a3], [.ref x0], f, m)) zh_X9_mark_21 rfl).trans ((zx_getfield zh_X9_mark_22))
theorem ze_X9_mark_25 {d : Nat} {f : zF} {m : zM} {a0 a1 a2 a3 : Value} {y0 : Nat} : zex zTb d zqX9_mark 25 [a0, a1, a2, a3] [.ref y0] f m = if zco (f y0) 1 1 = true then zex zTb d zqX9_mark 28 [a0, a1, a2, a3] [zcf (f y0) 1] f m else none := (zx_getfield zh_X9_mark_25)
theorem ze_X9_mark_28 {d : Nat} {f : zF} {m : zM} {a0 a2 a3 : Value} {x1 : Int32} {y0 : Nat} : zex zTb d zqX9_mark 28 [a0, .int x1, a2, a3] [.ref y0] f m = if zri (f y0) 2 x1 = true then zex zTb d zqX9_mark 30 [a0, .int x1, a2, a3] [.int (zgi (f y0) x1.toNatClampNeg)] f m else none := (zxl_go (x := (29, [a0, .int x1, a2, a3], [.int x1, .ref y0], f, m)) zh_X9_mark_28 rfl).trans ((zx_baload zh_X9_mark_29))
theorem ze_X9_mark_30 {d : Nat} {f : zF} {m : zM} {x0 : Nat} {a1 a2 a3 : Value} {y0 : Int32} : zex zTb d zqX9_mark 30 [.ref x0, a1, a2, a3] [.int y0] f m = if zco (f x0) 8 0 = true then zex zTb d zqX9_mark 35 [.ref x0, a1, (zclr a2), .int y0] [zcf (f x0) 0] f m else none := (zxl_go (x := (31, [.ref x0, a1, (zclr a2), .int y0], [], f, m)) zh_X9_mark_30 rfl).trans ((zxl_go (x := (32, [.ref x0, a1, (zclr a2), .int y0], [.ref x0], f, m)) zh_X9_mark_31 rfl).trans ((zx_getfield zh_X9_mark_32)))
theorem ze_X9_mark_35 {d : Nat} {f : zF} {m : zM} {a0 a1 a2 a3 : Value} {y0 : Nat} : zex zTb d zqX9_mark 35 [a0, a1, a2, a3] [.ref y0] f m = if zco (f y0) 1 1 = true then zex zTb d zqX9_mark 38 [a0, a1, a2, a3] [zcf (f y0) 1] f m else none := (zx_getfield zh_X9_mark_35)
theorem ze_X9_mark_38 {d : Nat} {f : zF} {m : zM} {a0 a3 : Value} {x1 x2 : Int32} {y0 : Nat} : zex zTb d zqX9_mark 38 [a0, .int x1, .int x2, a3] [.ref y0] f m = if zri (f y0) 2 x1 = true then zex zTb d zqX9_mark 41 [a0, .int x1, .int x2, a3] [] (zup f y0 (zwi (f y0) 2 x1.toNatClampNeg x2)) m else none := (zxl_go (x := (39, [a0, .int x1, .int x2, a3], [.int x1, .ref y0], f, m)) zh_X9_mark_38 rfl).trans ((zxl_go (x := (40, [a0, .int x1, .int x2, a3], [.int x2, .int x1, .ref y0], f, m)) zh_X9_mark_39 rfl).trans ((zx_bastore zh_X9_mark_40)))
theorem ze_X9_mark_41 {d : Nat} {f : zF} {m : zM} {x0 : Nat} {a1 a2 a3 : Value} : zex zTb d zqX9_mark 41 [.ref x0, a1, a2, a3] [] f m = if (zco (f x0) 8 4 && zok (zfty 8 4) (.int (I 0))) = true then zex zTb d zqX9_mark 46 [.ref x0, a1, a2, a3] [] (zup f x0 (zcs (f x0) 4 (.int (I 0)))) m else none := (zxl_go (x := (42, [.ref x0, a1, a2, a3], [.ref x0], f, m)) zh_X9_mark_41 rfl).trans ((zx_iconst zh_X9_mark_42).trans ((zx_putfield zh_X9_mark_43)))
theorem ze_X9_mark_46 {d : Nat} {f : zF} {m : zM} {a0 a1 a2 : Value} {x3 : Int32} : zex zTb d zqX9_mark 46 [a0, a1, a2, .int x3] [] f m = if (x3 = 0 ∨ x3 = 1) then some (.inl (some (.int x3)), f, m) else none := (zxl_go (x := (47, [a0, a1, a2, .int x3], [.int x3], f, m)) zh_X9_mark_46 rfl).trans ((zx_bret zh_X9_mark_47 rfl))
-- X9_drop
theorem zh_X9_drop_0 : zfe zqX9_drop.i 0 = some (0, .aload_n 0, 1, 0, 0, 0) := rfl
theorem zh_X9_drop_1 : zfe zqX9_drop.i 1 = some (1, .getfield 10, 3, 8, 0, 0) := rfl
theorem zh_X9_drop_4 : zfe zqX9_drop.i 4 = some (4, .getfield 82, 3, 1, 2, 0) := rfl
theorem zh_X9_drop_7 : zfe zqX9_drop.i 7 = some (7, .ifCond .ne 13, 3, 0, 0, 0) := rfl
theorem zh_X9_drop_10 : zfe zqX9_drop.i 10 = some (10, .new 73, 3, 1, 100, 77) := rfl
theorem zh_X9_drop_20 : zfe zqX9_drop.i 20 = some (20, .aload_n 0, 1, 0, 0, 0) := rfl
theorem zh_X9_drop_21 : zfe zqX9_drop.i 21 = some (21, .getfield 10, 3, 8, 0, 0) := rfl
theorem zh_X9_drop_24 : zfe zqX9_drop.i 24 = some (24, .invokevirtual 101, 3, 8, 1, 1) := rfl
theorem zh_X9_drop_27 : zfe zqX9_drop.i 27 = some (27, .aload_n 0, 1, 0, 0, 0) := rfl
theorem zh_X9_drop_28 : zfe zqX9_drop.i 28 = some (28, .iconst 0, 1, 0, 0, 0) := rfl
theorem zh_X9_drop_29 : zfe zqX9_drop.i 29 = some (29, .putfield 78, 3, 8, 4, 0) := rfl
theorem zh_X9_drop_32 : zfe zqX9_drop.i 32 = some (32, .aload_n 0, 1, 0, 0, 0) := rfl
theorem zh_X9_drop_33 : zfe zqX9_drop.i 33 = some (33, .getfield 10, 3, 8, 0, 0) := rfl
theorem zh_X9_drop_36 : zfe zqX9_drop.i 36 = some (36, .getfield 82, 3, 1, 2, 0) := rfl
theorem zh_X9_drop_39 : zfe zqX9_drop.i 39 = some (39, .ireturn, 1, 0, 0, 0) := rfl
theorem ze_X9_drop_0 {d : Nat} {f : zF} {m : zM} {x0 : Nat} : zex zTb d zqX9_drop 0 [.ref x0] [] f m = if zco (f x0) 8 0 = true then zex zTb d zqX9_drop 4 [.ref x0] [zcf (f x0) 0] f m else none := (zxl_go (x := (1, [.ref x0], [.ref x0], f, m)) zh_X9_drop_0 rfl).trans ((zx_getfield zh_X9_drop_1))
theorem ze_X9_drop_4 {d : Nat} {f : zF} {m : zM} {a0 : Value} {y0 : Nat} : zex zTb d zqX9_drop 4 [a0] [.ref y0] f m = if zco (f y0) 1 2 = true then zex zTb d zqX9_drop 7 [a0] [zcf (f y0) 2] f m else none := (zx_getfield zh_X9_drop_4)
theorem ze_X9_drop_7 {d : Nat} {f : zF} {m : zM} {a0 : Value} {y0 : Int32} : zex zTb d zqX9_drop 7 [a0] [.int y0] f m = if zc1 .ne y0 = true then zex zTb d zqX9_drop 20 [a0] [] f m else zex zTb d zqX9_drop 10 [a0] [] f m := (zx_if (tgt := 20) zh_X9_drop_7 rfl)
theorem ze_X9_drop_10 {d : Nat} {f : zF} {m : zM} {a0 : Value} : zex zTb d zqX9_drop 10 [a0] [] f m = some (.inr 1, f, (none, m.2.1 + 1, m.2.2 + 6)) := (zx_throw zh_X9_drop_10 (Nat.le_of_ble_eq_true rfl))
theorem ze_X9_drop_20 {d : Nat} {f : zF} {m : zM} {x0 : Nat} : zex zTb d zqX9_drop 20 [.ref x0] [] f m = if zco (f x0) 8 0 = true then zex zTb d zqX9_drop 24 [.ref x0] [zcf (f x0) 0] f m else none := (zxl_go (x := (21, [.ref x0], [.ref x0], f, m)) zh_X9_drop_20 rfl).trans ((zx_getfield zh_X9_drop_21))
theorem ze_X9_drop_24 {d : Nat} {f : zF} {m : zM} {a0 : Value} {y0 : Nat} : zex zTb d zqX9_drop 24 [a0] [.ref y0] f m = if zisc (f y0) 1 = true then zcal zTb (zrun zTb d 8 [.ref y0] f m) d zqX9_drop 24 27 [a0] [] else none := (zx_virtual4 zh_X9_drop_24 (Nat.le_of_ble_eq_true rfl) rfl rfl (Nat.le_of_ble_eq_true rfl))
theorem ze_X9_drop_27 {d : Nat} {f : zF} {m : zM} {x0 : Nat} : zex zTb d zqX9_drop 27 [.ref x0] [] f m = if (zco (f x0) 8 4 && zok (zfty 8 4) (.int (I 0))) = true then zex zTb d zqX9_drop 32 [.ref x0] [] (zup f x0 (zcs (f x0) 4 (.int (I 0)))) m else none := (zxl_go (x := (28, [.ref x0], [.ref x0], f, m)) zh_X9_drop_27 rfl).trans ((zx_iconst zh_X9_drop_28).trans ((zx_putfield zh_X9_drop_29)))
theorem ze_X9_drop_32 {d : Nat} {f : zF} {m : zM} {x0 : Nat} : zex zTb d zqX9_drop 32 [.ref x0] [] f m = if zco (f x0) 8 0 = true then zex zTb d zqX9_drop 36 [.ref x0] [zcf (f x0) 0] f m else none := (zxl_go (x := (33, [.ref x0], [.ref x0], f, m)) zh_X9_drop_32 rfl).trans ((zx_getfield zh_X9_drop_33))
theorem ze_X9_drop_36 {d : Nat} {f : zF} {m : zM} {a0 : Value} {y0 : Nat} : zex zTb d zqX9_drop 36 [a0] [.ref y0] f m = if zco (f y0) 1 2 = true then zex zTb d zqX9_drop 39 [a0] [zcf (f y0) 2] f m else none := (zx_getfield zh_X9_drop_36)
theorem ze_X9_drop_39 {d : Nat} {f : zF} {m : zM} {a0 : Value} {y0 : Int32} : zex zTb d zqX9_drop 39 [a0] [.int y0] f m = some (.inl (some (.int y0)), f, m) := (zx_iret zh_X9_drop_39 (by first | rfl | decide))
-- X9_setCost
theorem zh_X9_setCost_0 : zfe zqX9_setCost.i 0 = some (0, .iload_n 1, 1, 0, 0, 0) := rfl
theorem zh_X9_setCost_1 : zfe zqX9_setCost.i 1 = some (1, .ifCond .lt 12, 3, 0, 0, 0) := rfl
theorem zh_X9_setCost_4 : zfe zqX9_setCost.i 4 = some (4, .iload_n 1, 1, 0, 0, 0) := rfl
theorem zh_X9_setCost_5 : zfe zqX9_setCost.i 5 = some (5, .aload_n 0, 1, 0, 0, 0) := rfl
theorem zh_X9_setCost_6 : zfe zqX9_setCost.i 6 = some (6, .getfield 16, 3, 8, 1, 0) := rfl
theorem zh_X9_setCost_9 : zfe zqX9_setCost.i 9 = some (9, .arraylength, 1, 0, 0, 0) := rfl
theorem zh_X9_setCost_10 : zfe zqX9_setCost.i 10 = some (10, .if_icmp .lt 13, 3, 0, 0, 0) := rfl
theorem zh_X9_setCost_13 : zfe zqX9_setCost.i 13 = some (13, .new 90, 3, 2, 105, 94) := rfl
theorem zh_X9_setCost_23 : zfe zqX9_setCost.i 23 = some (23, .iload_n 2, 1, 0, 0, 0) := rfl
theorem zh_X9_setCost_24 : zfe zqX9_setCost.i 24 = some (24, .iconst 1, 1, 0, 0, 0) := rfl
theorem zh_X9_setCost_25 : zfe zqX9_setCost.i 25 = some (25, .if_icmp .lt 9, 3, 0, 0, 0) := rfl
theorem zh_X9_setCost_28 : zfe zqX9_setCost.i 28 = some (28, .iload_n 2, 1, 0, 0, 0) := rfl
theorem zh_X9_setCost_29 : zfe zqX9_setCost.i 29 = some (29, .bipush 9, 2, 0, 0, 0) := rfl
theorem zh_X9_setCost_31 : zfe zqX9_setCost.i 31 = some (31, .if_icmp .le 13, 3, 0, 0, 0) := rfl
theorem zh_X9_setCost_34 : zfe zqX9_setCost.i 34 = some (34, .new 58, 3, 0, 107, 62) := rfl
theorem zh_X9_setCost_44 : zfe zqX9_setCost.i 44 = some (44, .aload_n 0, 1, 0, 0, 0) := rfl
theorem zh_X9_setCost_45 : zfe zqX9_setCost.i 45 = some (45, .getfield 16, 3, 8, 1, 0) := rfl
theorem zh_X9_setCost_48 : zfe zqX9_setCost.i 48 = some (48, .iload_n 1, 1, 0, 0, 0) := rfl
theorem zh_X9_setCost_49 : zfe zqX9_setCost.i 49 = some (49, .iaload, 1, 0, 0, 0) := rfl
theorem zh_X9_setCost_50 : zfe zqX9_setCost.i 50 = some (50, .istore_n 3, 1, 0, 0, 0) := rfl
theorem zh_X9_setCost_51 : zfe zqX9_setCost.i 51 = some (51, .aload_n 0, 1, 0, 0, 0) := rfl
theorem zh_X9_setCost_52 : zfe zqX9_setCost.i 52 = some (52, .getfield 16, 3, 8, 1, 0) := rfl
theorem zh_X9_setCost_55 : zfe zqX9_setCost.i 55 = some (55, .iload_n 1, 1, 0, 0, 0) := rfl
theorem zh_X9_setCost_56 : zfe zqX9_setCost.i 56 = some (56, .iload_n 2, 1, 0, 0, 0) := rfl
theorem zh_X9_setCost_57 : zfe zqX9_setCost.i 57 = some (57, .iastore, 1, 0, 0, 0) := rfl
theorem zh_X9_setCost_58 : zfe zqX9_setCost.i 58 = some (58, .aload_n 0, 1, 0, 0, 0) := rfl
theorem zh_X9_setCost_59 : zfe zqX9_setCost.i 59 = some (59, .iconst 0, 1, 0, 0, 0) := rfl
theorem zh_X9_setCost_60 : zfe zqX9_setCost.i 60 = some (60, .putfield 78, 3, 8, 4, 0) := rfl
theorem zh_X9_setCost_63 : zfe zqX9_setCost.i 63 = some (63, .iload_n 3, 1, 0, 0, 0) := rfl
theorem zh_X9_setCost_64 : zfe zqX9_setCost.i 64 = some (64, .ireturn, 1, 0, 0, 0) := rfl
theorem ze_X9_setCost_0 {d : Nat} {f : zF} {m : zM} {a0 a2 a3 : Value} {x1 : Int32} : zex zTb d zqX9_setCost 0 [a0, .int x1, a2, a3] [] f m = if zc1 .lt x1 = true then zex zTb d zqX9_setCost 13 [a0, .int x1, a2, a3] [] f m else zex zTb d zqX9_setCost 4 [a0, .int x1, a2, a3] [] f m := (zxl_go (x := (1, [a0, .int x1, a2, a3], [.int x1], f, m)) zh_X9_setCost_0 rfl).trans ((zx_if (tgt := 13) zh_X9_setCost_1 rfl))
theorem ze_X9_setCost_4 {d : Nat} {f : zF} {m : zM} {x0 : Nat} {x1 : Int32} {a2 a3 : Value} : zex zTb d zqX9_setCost 4 [.ref x0, .int x1, a2, a3] [] f m = if zco (f x0) 8 1 = true then zex zTb d zqX9_setCost 9 [.ref x0, .int x1, a2, a3] [zcf (f x0) 1, .int x1] f m else none := (zxl_go (x := (5, [.ref x0, .int x1, a2, a3], [.int x1], f, m)) zh_X9_setCost_4 rfl).trans ((zxl_go (x := (6, [.ref x0, .int x1, a2, a3], [.ref x0, .int x1], f, m)) zh_X9_setCost_5 rfl).trans ((zx_getfield zh_X9_setCost_6)))
theorem ze_X9_setCost_9 {d : Nat} {f : zF} {m : zM} {a0 a1 a2 a3 : Value} {y0 : Int32} {y1 : Nat} : zex zTb d zqX9_setCost 9 [a0, a1, a2, a3] [.ref y1, .int y0] f m = if zisa (f y1) = true then zex zTb d zqX9_setCost 10 [a0, a1, a2, a3] [.int (Int32.ofNat (zln (f y1))), .int y0] f m else none := (zx_alen zh_X9_setCost_9)
theorem ze_X9_setCost_10 {d : Nat} {f : zF} {m : zM} {a0 a1 a2 a3 : Value} {y0 y1 : Int32} : zex zTb d zqX9_setCost 10 [a0, a1, a2, a3] [.int y1, .int y0] f m = if zc2 .lt y0 y1 = true then zex zTb d zqX9_setCost 23 [a0, a1, a2, a3] [] f m else zex zTb d zqX9_setCost 13 [a0, a1, a2, a3] [] f m := (zx_icmp (tgt := 23) zh_X9_setCost_10 rfl)
theorem ze_X9_setCost_13 {d : Nat} {f : zF} {m : zM} {a0 a1 a2 a3 : Value} : zex zTb d zqX9_setCost 13 [a0, a1, a2, a3] [] f m = some (.inr 2, f, (none, m.2.1 + 1, m.2.2 + 6)) := (zx_throw zh_X9_setCost_13 (Nat.le_of_ble_eq_true rfl))
theorem ze_X9_setCost_23 {d : Nat} {f : zF} {m : zM} {a0 a1 a3 : Value} {x2 : Int32} : zex zTb d zqX9_setCost 23 [a0, a1, .int x2, a3] [] f m = if zc2 .lt x2 (I 1) = true then zex zTb d zqX9_setCost 34 [a0, a1, .int x2, a3] [] f m else zex zTb d zqX9_setCost 28 [a0, a1, .int x2, a3] [] f m := (zxl_go (x := (24, [a0, a1, .int x2, a3], [.int x2], f, m)) zh_X9_setCost_23 rfl).trans ((zx_iconst zh_X9_setCost_24).trans ((zx_icmp (tgt := 34) zh_X9_setCost_25 rfl)))
theorem ze_X9_setCost_28 {d : Nat} {f : zF} {m : zM} {a0 a1 a3 : Value} {x2 : Int32} : zex zTb d zqX9_setCost 28 [a0, a1, .int x2, a3] [] f m = if zc2 .le x2 (I 9) = true then zex zTb d zqX9_setCost 44 [a0, a1, .int x2, a3] [] f m else zex zTb d zqX9_setCost 34 [a0, a1, .int x2, a3] [] f m := (zxl_go (x := (29, [a0, a1, .int x2, a3], [.int x2], f, m)) zh_X9_setCost_28 rfl).trans ((zx_bipush zh_X9_setCost_29 (by decide)).trans ((zx_icmp (tgt := 44) zh_X9_setCost_31 rfl)))
theorem ze_X9_setCost_34 {d : Nat} {f : zF} {m : zM} {a0 a1 a2 a3 : Value} : zex zTb d zqX9_setCost 34 [a0, a1, a2, a3] [] f m = some (.inr 0, f, (none, m.2.1 + 1, m.2.2 + 6)) := (zx_throw zh_X9_setCost_34 (Nat.le_of_ble_eq_true rfl))
theorem ze_X9_setCost_44 {d : Nat} {f : zF} {m : zM} {x0 : Nat} {a1 a2 a3 : Value} : zex zTb d zqX9_setCost 44 [.ref x0, a1, a2, a3] [] f m = if zco (f x0) 8 1 = true then zex zTb d zqX9_setCost 48 [.ref x0, a1, a2, a3] [zcf (f x0) 1] f m else none := (zxl_go (x := (45, [.ref x0, a1, a2, a3], [.ref x0], f, m)) zh_X9_setCost_44 rfl).trans ((zx_getfield zh_X9_setCost_45))
theorem ze_X9_setCost_48 {d : Nat} {f : zF} {m : zM} {a0 a2 a3 : Value} {x1 : Int32} {y0 : Nat} : zex zTb d zqX9_setCost 48 [a0, .int x1, a2, a3] [.ref y0] f m = if zr8 (f y0) x1 = true then zex zTb d zqX9_setCost 50 [a0, .int x1, a2, a3] [.int (zgi (f y0) x1.toNatClampNeg)] f m else none := (zxl_go (x := (49, [a0, .int x1, a2, a3], [.int x1, .ref y0], f, m)) zh_X9_setCost_48 rfl).trans ((zx_iaload zh_X9_setCost_49))
theorem ze_X9_setCost_50 {d : Nat} {f : zF} {m : zM} {x0 : Nat} {a1 a2 a3 : Value} {y0 : Int32} : zex zTb d zqX9_setCost 50 [.ref x0, a1, a2, a3] [.int y0] f m = if zco (f x0) 8 1 = true then zex zTb d zqX9_setCost 55 [.ref x0, a1, (zclr a2), .int y0] [zcf (f x0) 1] f m else none := (zxl_go (x := (51, [.ref x0, a1, (zclr a2), .int y0], [], f, m)) zh_X9_setCost_50 rfl).trans ((zxl_go (x := (52, [.ref x0, a1, (zclr a2), .int y0], [.ref x0], f, m)) zh_X9_setCost_51 rfl).trans ((zx_getfield zh_X9_setCost_52)))
theorem ze_X9_setCost_55 {d : Nat} {f : zF} {m : zM} {a0 a3 : Value} {x1 x2 : Int32} {y0 : Nat} : zex zTb d zqX9_setCost 55 [a0, .int x1, .int x2, a3] [.ref y0] f m = if zri (f y0) 0 x1 = true then zex zTb d zqX9_setCost 58 [a0, .int x1, .int x2, a3] [] (zup f y0 (zwi (f y0) 0 x1.toNatClampNeg x2)) m else none := (zxl_go (x := (56, [a0, .int x1, .int x2, a3], [.int x1, .ref y0], f, m)) zh_X9_setCost_55 rfl).trans ((zxl_go (x := (57, [a0, .int x1, .int x2, a3], [.int x2, .int x1, .ref y0], f, m)) zh_X9_setCost_56 rfl).trans ((zx_iastore zh_X9_setCost_57)))
theorem ze_X9_setCost_58 {d : Nat} {f : zF} {m : zM} {x0 : Nat} {a1 a2 a3 : Value} : zex zTb d zqX9_setCost 58 [.ref x0, a1, a2, a3] [] f m = if (zco (f x0) 8 4 && zok (zfty 8 4) (.int (I 0))) = true then zex zTb d zqX9_setCost 63 [.ref x0, a1, a2, a3] [] (zup f x0 (zcs (f x0) 4 (.int (I 0)))) m else none := (zxl_go (x := (59, [.ref x0, a1, a2, a3], [.ref x0], f, m)) zh_X9_setCost_58 rfl).trans ((zx_iconst zh_X9_setCost_59).trans ((zx_putfield zh_X9_setCost_60)))
theorem ze_X9_setCost_63 {d : Nat} {f : zF} {m : zM} {a0 a1 a2 : Value} {x3 : Int32} : zex zTb d zqX9_setCost 63 [a0, a1, a2, .int x3] [] f m = some (.inl (some (.int x3)), f, m) := (zxl_go (x := (64, [a0, a1, a2, .int x3], [.int x3], f, m)) zh_X9_setCost_63 rfl).trans ((zx_iret zh_X9_setCost_64 (by first | rfl | decide)))
-- X9_exampleCount
theorem zh_X9_exampleCount_0 : zfe zqX9_exampleCount.i 0 = some (0, .aload_n 0, 1, 0, 0, 0) := rfl
theorem zh_X9_exampleCount_1 : zfe zqX9_exampleCount.i 1 = some (1, .getfield 10, 3, 8, 0, 0) := rfl
theorem zh_X9_exampleCount_4 : zfe zqX9_exampleCount.i 4 = some (4, .getfield 82, 3, 1, 2, 0) := rfl
theorem zh_X9_exampleCount_7 : zfe zqX9_exampleCount.i 7 = some (7, .ireturn, 1, 0, 0, 0) := rfl
theorem ze_X9_exampleCount_0 {d : Nat} {f : zF} {m : zM} {x0 : Nat} : zex zTb d zqX9_exampleCount 0 [.ref x0] [] f m = if zco (f x0) 8 0 = true then zex zTb d zqX9_exampleCount 4 [.ref x0] [zcf (f x0) 0] f m else none := (zxl_go (x := (1, [.ref x0], [.ref x0], f, m)) zh_X9_exampleCount_0 rfl).trans ((zx_getfield zh_X9_exampleCount_1))
theorem ze_X9_exampleCount_4 {d : Nat} {f : zF} {m : zM} {a0 : Value} {y0 : Nat} : zex zTb d zqX9_exampleCount 4 [a0] [.ref y0] f m = if zco (f y0) 1 2 = true then zex zTb d zqX9_exampleCount 7 [a0] [zcf (f y0) 2] f m else none := (zx_getfield zh_X9_exampleCount_4)
theorem ze_X9_exampleCount_7 {d : Nat} {f : zF} {m : zM} {a0 : Value} {y0 : Int32} : zex zTb d zqX9_exampleCount 7 [a0] [.int y0] f m = some (.inl (some (.int y0)), f, m) := (zx_iret zh_X9_exampleCount_7 (by first | rfl | decide))
-- X9_example
theorem zh_X9_example_0 : zfe zqX9_example.i 0 = some (0, .aload_n 0, 1, 0, 0, 0) := rfl
theorem zh_X9_example_1 : zfe zqX9_example.i 1 = some (1, .getfield 10, 3, 8, 0, 0) := rfl
theorem zh_X9_example_4 : zfe zqX9_example.i 4 = some (4, .iload_n 1, 1, 0, 0, 0) := rfl
theorem zh_X9_example_5 : zfe zqX9_example.i 5 = some (5, .invokevirtual 86, 3, 5, 2, 1) := rfl
theorem zh_X9_example_8 : zfe zqX9_example.i 8 = some (8, .ifCond .ne 13, 3, 0, 0, 0) := rfl
theorem zh_X9_example_11 : zfe zqX9_example.i 11 = some (11, .new 90, 3, 2, 93, 94) := rfl
theorem zh_X9_example_21 : zfe zqX9_example.i 21 = some (21, .aload_n 0, 1, 0, 0, 0) := rfl
theorem zh_X9_example_22 : zfe zqX9_example.i 22 = some (22, .getfield 10, 3, 8, 0, 0) := rfl
theorem zh_X9_example_25 : zfe zqX9_example.i 25 = some (25, .getfield 108, 3, 1, 0, 0) := rfl
theorem zh_X9_example_28 : zfe zqX9_example.i 28 = some (28, .iload_n 1, 1, 0, 0, 0) := rfl
theorem zh_X9_example_29 : zfe zqX9_example.i 29 = some (29, .laload, 1, 0, 0, 0) := rfl
theorem zh_X9_example_30 : zfe zqX9_example.i 30 = some (30, .lreturn, 1, 0, 0, 0) := rfl
theorem ze_X9_example_0 {d : Nat} {f : zF} {m : zM} {x0 : Nat} {a1 : Value} : zex zTb d zqX9_example 0 [.ref x0, a1] [] f m = if zco (f x0) 8 0 = true then zex zTb d zqX9_example 4 [.ref x0, a1] [zcf (f x0) 0] f m else none := (zxl_go (x := (1, [.ref x0, a1], [.ref x0], f, m)) zh_X9_example_0 rfl).trans ((zx_getfield zh_X9_example_1))
theorem ze_X9_example_4 {d : Nat} {f : zF} {m : zM} {a0 : Value} {x1 : Int32} {y0 : Nat} : zex zTb d zqX9_example 4 [a0, .int x1] [.ref y0] f m = if zisc (f y0) 1 = true then zcal zTb (zrun zTb d 5 [.ref y0, .int x1] f m) d zqX9_example 5 8 [a0, .int x1] [] else none := (zxl_go (x := (5, [a0, .int x1], [.int x1, .ref y0], f, m)) zh_X9_example_4 rfl).trans ((zx_virtual4 zh_X9_example_5 (Nat.le_of_ble_eq_true rfl) rfl rfl (Nat.le_of_ble_eq_true rfl)))
theorem ze_X9_example_8 {d : Nat} {f : zF} {m : zM} {a0 a1 : Value} {y0 : Int32} : zex zTb d zqX9_example 8 [a0, a1] [.int y0] f m = if zc1 .ne y0 = true then zex zTb d zqX9_example 21 [a0, a1] [] f m else zex zTb d zqX9_example 11 [a0, a1] [] f m := (zx_if (tgt := 21) zh_X9_example_8 rfl)
theorem ze_X9_example_11 {d : Nat} {f : zF} {m : zM} {a0 a1 : Value} : zex zTb d zqX9_example 11 [a0, a1] [] f m = some (.inr 2, f, (none, m.2.1 + 1, m.2.2 + 6)) := (zx_throw zh_X9_example_11 (Nat.le_of_ble_eq_true rfl))
theorem ze_X9_example_21 {d : Nat} {f : zF} {m : zM} {x0 : Nat} {a1 : Value} : zex zTb d zqX9_example 21 [.ref x0, a1] [] f m = if zco (f x0) 8 0 = true then zex zTb d zqX9_example 25 [.ref x0, a1] [zcf (f x0) 0] f m else none := (zxl_go (x := (22, [.ref x0, a1], [.ref x0], f, m)) zh_X9_example_21 rfl).trans ((zx_getfield zh_X9_example_22))
theorem ze_X9_example_25 {d : Nat} {f : zF} {m : zM} {a0 a1 : Value} {y0 : Nat} : zex zTb d zqX9_example 25 [a0, a1] [.ref y0] f m = if zco (f y0) 1 0 = true then zex zTb d zqX9_example 28 [a0, a1] [zcf (f y0) 0] f m else none := (zx_getfield zh_X9_example_25)
theorem ze_X9_example_28 {d : Nat} {f : zF} {m : zM} {a0 : Value} {x1 : Int32} {y0 : Nat} : zex zTb d zqX9_example 28 [a0, .int x1] [.ref y0] f m = if zrl (f y0) x1 = true then zex zTb d zqX9_example 30 [a0, .int x1] [.long (zgl (f y0) x1.toNatClampNeg)] f m else none := (zxl_go (x := (29, [a0, .int x1], [.int x1, .ref y0], f, m)) zh_X9_example_28 rfl).trans ((zx_laload zh_X9_example_29))
theorem ze_X9_example_30 {d : Nat} {f : zF} {m : zM} {a0 a1 : Value} {y0 : Int64} : zex zTb d zqX9_example 30 [a0, a1] [.long y0] f m = some (.inl (some (.long y0)), f, m) := (zx_lret zh_X9_example_30 rfl)
-- X9_isGood
theorem zh_X9_isGood_0 : zfe zqX9_isGood.i 0 = some (0, .aload_n 0, 1, 0, 0, 0) := rfl
theorem zh_X9_isGood_1 : zfe zqX9_isGood.i 1 = some (1, .getfield 10, 3, 8, 0, 0) := rfl
theorem zh_X9_isGood_4 : zfe zqX9_isGood.i 4 = some (4, .iload_n 1, 1, 0, 0, 0) := rfl
theorem zh_X9_isGood_5 : zfe zqX9_isGood.i 5 = some (5, .invokevirtual 86, 3, 5, 2, 1) := rfl
theorem zh_X9_isGood_8 : zfe zqX9_isGood.i 8 = some (8, .ifCond .ne 13, 3, 0, 0, 0) := rfl
theorem zh_X9_isGood_11 : zfe zqX9_isGood.i 11 = some (11, .new 90, 3, 2, 93, 94) := rfl
theorem zh_X9_isGood_21 : zfe zqX9_isGood.i 21 = some (21, .aload_n 0, 1, 0, 0, 0) := rfl
theorem zh_X9_isGood_22 : zfe zqX9_isGood.i 22 = some (22, .getfield 10, 3, 8, 0, 0) := rfl
theorem zh_X9_isGood_25 : zfe zqX9_isGood.i 25 = some (25, .getfield 95, 3, 1, 1, 0) := rfl
theorem zh_X9_isGood_28 : zfe zqX9_isGood.i 28 = some (28, .iload_n 1, 1, 0, 0, 0) := rfl
theorem zh_X9_isGood_29 : zfe zqX9_isGood.i 29 = some (29, .baload, 1, 0, 0, 0) := rfl
theorem zh_X9_isGood_30 : zfe zqX9_isGood.i 30 = some (30, .ireturn, 1, 0, 0, 0) := rfl
theorem ze_X9_isGood_0 {d : Nat} {f : zF} {m : zM} {x0 : Nat} {a1 : Value} : zex zTb d zqX9_isGood 0 [.ref x0, a1] [] f m = if zco (f x0) 8 0 = true then zex zTb d zqX9_isGood 4 [.ref x0, a1] [zcf (f x0) 0] f m else none := (zxl_go (x := (1, [.ref x0, a1], [.ref x0], f, m)) zh_X9_isGood_0 rfl).trans ((zx_getfield zh_X9_isGood_1))
theorem ze_X9_isGood_4 {d : Nat} {f : zF} {m : zM} {a0 : Value} {x1 : Int32} {y0 : Nat} : zex zTb d zqX9_isGood 4 [a0, .int x1] [.ref y0] f m = if zisc (f y0) 1 = true then zcal zTb (zrun zTb d 5 [.ref y0, .int x1] f m) d zqX9_isGood 5 8 [a0, .int x1] [] else none := (zxl_go (x := (5, [a0, .int x1], [.int x1, .ref y0], f, m)) zh_X9_isGood_4 rfl).trans ((zx_virtual4 zh_X9_isGood_5 (Nat.le_of_ble_eq_true rfl) rfl rfl (Nat.le_of_ble_eq_true rfl)))
theorem ze_X9_isGood_8 {d : Nat} {f : zF} {m : zM} {a0 a1 : Value} {y0 : Int32} : zex zTb d zqX9_isGood 8 [a0, a1] [.int y0] f m = if zc1 .ne y0 = true then zex zTb d zqX9_isGood 21 [a0, a1] [] f m else zex zTb d zqX9_isGood 11 [a0, a1] [] f m := (zx_if (tgt := 21) zh_X9_isGood_8 rfl)
theorem ze_X9_isGood_11 {d : Nat} {f : zF} {m : zM} {a0 a1 : Value} : zex zTb d zqX9_isGood 11 [a0, a1] [] f m = some (.inr 2, f, (none, m.2.1 + 1, m.2.2 + 6)) := (zx_throw zh_X9_isGood_11 (Nat.le_of_ble_eq_true rfl))
theorem ze_X9_isGood_21 {d : Nat} {f : zF} {m : zM} {x0 : Nat} {a1 : Value} : zex zTb d zqX9_isGood 21 [.ref x0, a1] [] f m = if zco (f x0) 8 0 = true then zex zTb d zqX9_isGood 25 [.ref x0, a1] [zcf (f x0) 0] f m else none := (zxl_go (x := (22, [.ref x0, a1], [.ref x0], f, m)) zh_X9_isGood_21 rfl).trans ((zx_getfield zh_X9_isGood_22))
theorem ze_X9_isGood_25 {d : Nat} {f : zF} {m : zM} {a0 a1 : Value} {y0 : Nat} : zex zTb d zqX9_isGood 25 [a0, a1] [.ref y0] f m = if zco (f y0) 1 1 = true then zex zTb d zqX9_isGood 28 [a0, a1] [zcf (f y0) 1] f m else none := (zx_getfield zh_X9_isGood_25)
theorem ze_X9_isGood_28 {d : Nat} {f : zF} {m : zM} {a0 : Value} {x1 : Int32} {y0 : Nat} : zex zTb d zqX9_isGood 28 [a0, .int x1] [.ref y0] f m = if zri (f y0) 2 x1 = true then zex zTb d zqX9_isGood 30 [a0, .int x1] [.int (zgi (f y0) x1.toNatClampNeg)] f m else none := (zxl_go (x := (29, [a0, .int x1], [.int x1, .ref y0], f, m)) zh_X9_isGood_28 rfl).trans ((zx_baload zh_X9_isGood_29))
theorem ze_X9_isGood_30 {d : Nat} {f : zF} {m : zM} {a0 a1 : Value} {y0 : Int32} : zex zTb d zqX9_isGood 30 [a0, a1] [.int y0] f m = if (y0 = 0 ∨ y0 = 1) then some (.inl (some (.int y0)), f, m) else none := (zx_bret zh_X9_isGood_30 rfl)
-- X9_pieceCount
theorem zh_X9_pieceCount_0 : zfe zqX9_pieceCount.i 0 = some (0, .aload_n 0, 1, 0, 0, 0) := rfl
theorem zh_X9_pieceCount_1 : zfe zqX9_pieceCount.i 1 = some (1, .getfield 10, 3, 8, 0, 0) := rfl
theorem zh_X9_pieceCount_4 : zfe zqX9_pieceCount.i 4 = some (4, .getfield 112, 3, 1, 3, 0) := rfl
theorem zh_X9_pieceCount_7 : zfe zqX9_pieceCount.i 7 = some (7, .getfield 116, 3, 3, 1, 0) := rfl
theorem zh_X9_pieceCount_10 : zfe zqX9_pieceCount.i 10 = some (10, .ireturn, 1, 0, 0, 0) := rfl
theorem ze_X9_pieceCount_0 {d : Nat} {f : zF} {m : zM} {x0 : Nat} : zex zTb d zqX9_pieceCount 0 [.ref x0] [] f m = if zco (f x0) 8 0 = true then zex zTb d zqX9_pieceCount 4 [.ref x0] [zcf (f x0) 0] f m else none := (zxl_go (x := (1, [.ref x0], [.ref x0], f, m)) zh_X9_pieceCount_0 rfl).trans ((zx_getfield zh_X9_pieceCount_1))
theorem ze_X9_pieceCount_4 {d : Nat} {f : zF} {m : zM} {a0 : Value} {y0 : Nat} : zex zTb d zqX9_pieceCount 4 [a0] [.ref y0] f m = if zco (f y0) 1 3 = true then zex zTb d zqX9_pieceCount 7 [a0] [zcf (f y0) 3] f m else none := (zx_getfield zh_X9_pieceCount_4)
theorem ze_X9_pieceCount_7 {d : Nat} {f : zF} {m : zM} {a0 : Value} {y0 : Nat} : zex zTb d zqX9_pieceCount 7 [a0] [.ref y0] f m = if zco (f y0) 3 1 = true then zex zTb d zqX9_pieceCount 10 [a0] [zcf (f y0) 1] f m else none := (zx_getfield zh_X9_pieceCount_7)
theorem ze_X9_pieceCount_10 {d : Nat} {f : zF} {m : zM} {a0 : Value} {y0 : Int32} : zex zTb d zqX9_pieceCount 10 [a0] [.int y0] f m = some (.inl (some (.int y0)), f, m) := (zx_iret zh_X9_pieceCount_10 (by first | rfl | decide))
-- X9_piece
theorem zh_X9_piece_0 : zfe zqX9_piece.i 0 = some (0, .aload_n 0, 1, 0, 0, 0) := rfl
theorem zh_X9_piece_1 : zfe zqX9_piece.i 1 = some (1, .getfield 10, 3, 8, 0, 0) := rfl
theorem zh_X9_piece_4 : zfe zqX9_piece.i 4 = some (4, .getfield 112, 3, 1, 3, 0) := rfl
theorem zh_X9_piece_7 : zfe zqX9_piece.i 7 = some (7, .iload_n 1, 1, 0, 0, 0) := rfl
theorem zh_X9_piece_8 : zfe zqX9_piece.i 8 = some (8, .invokevirtual 119, 3, 25, 2, 3) := rfl
theorem zh_X9_piece_11 : zfe zqX9_piece.i 11 = some (11, .ifCond .ne 13, 3, 0, 0, 0) := rfl
theorem zh_X9_piece_14 : zfe zqX9_piece.i 14 = some (14, .new 90, 3, 2, 121, 94) := rfl
theorem zh_X9_piece_24 : zfe zqX9_piece.i 24 = some (24, .aload_n 0, 1, 0, 0, 0) := rfl
theorem zh_X9_piece_25 : zfe zqX9_piece.i 25 = some (25, .getfield 10, 3, 8, 0, 0) := rfl
theorem zh_X9_piece_28 : zfe zqX9_piece.i 28 = some (28, .getfield 112, 3, 1, 3, 0) := rfl
theorem zh_X9_piece_31 : zfe zqX9_piece.i 31 = some (31, .getfield 122, 3, 3, 0, 0) := rfl
theorem zh_X9_piece_34 : zfe zqX9_piece.i 34 = some (34, .iload_n 1, 1, 0, 0, 0) := rfl
theorem zh_X9_piece_35 : zfe zqX9_piece.i 35 = some (35, .laload, 1, 0, 0, 0) := rfl
theorem zh_X9_piece_36 : zfe zqX9_piece.i 36 = some (36, .lreturn, 1, 0, 0, 0) := rfl
theorem ze_X9_piece_0 {d : Nat} {f : zF} {m : zM} {x0 : Nat} {a1 : Value} : zex zTb d zqX9_piece 0 [.ref x0, a1] [] f m = if zco (f x0) 8 0 = true then zex zTb d zqX9_piece 4 [.ref x0, a1] [zcf (f x0) 0] f m else none := (zxl_go (x := (1, [.ref x0, a1], [.ref x0], f, m)) zh_X9_piece_0 rfl).trans ((zx_getfield zh_X9_piece_1))
theorem ze_X9_piece_4 {d : Nat} {f : zF} {m : zM} {a0 a1 : Value} {y0 : Nat} : zex zTb d zqX9_piece 4 [a0, a1] [.ref y0] f m = if zco (f y0) 1 3 = true then zex zTb d zqX9_piece 7 [a0, a1] [zcf (f y0) 3] f m else none := (zx_getfield zh_X9_piece_4)
theorem ze_X9_piece_7 {d : Nat} {f : zF} {m : zM} {a0 : Value} {x1 : Int32} {y0 : Nat} : zex zTb d zqX9_piece 7 [a0, .int x1] [.ref y0] f m = if zisc (f y0) 3 = true then zcal zTb (zrun zTb d 25 [.ref y0, .int x1] f m) d zqX9_piece 8 11 [a0, .int x1] [] else none := (zxl_go (x := (8, [a0, .int x1], [.int x1, .ref y0], f, m)) zh_X9_piece_7 rfl).trans ((zx_virtual4 zh_X9_piece_8 (Nat.le_of_ble_eq_true rfl) rfl rfl (Nat.le_of_ble_eq_true rfl)))
theorem ze_X9_piece_11 {d : Nat} {f : zF} {m : zM} {a0 a1 : Value} {y0 : Int32} : zex zTb d zqX9_piece 11 [a0, a1] [.int y0] f m = if zc1 .ne y0 = true then zex zTb d zqX9_piece 24 [a0, a1] [] f m else zex zTb d zqX9_piece 14 [a0, a1] [] f m := (zx_if (tgt := 24) zh_X9_piece_11 rfl)
theorem ze_X9_piece_14 {d : Nat} {f : zF} {m : zM} {a0 a1 : Value} : zex zTb d zqX9_piece 14 [a0, a1] [] f m = some (.inr 2, f, (none, m.2.1 + 1, m.2.2 + 6)) := (zx_throw zh_X9_piece_14 (Nat.le_of_ble_eq_true rfl))
theorem ze_X9_piece_24 {d : Nat} {f : zF} {m : zM} {x0 : Nat} {a1 : Value} : zex zTb d zqX9_piece 24 [.ref x0, a1] [] f m = if zco (f x0) 8 0 = true then zex zTb d zqX9_piece 28 [.ref x0, a1] [zcf (f x0) 0] f m else none := (zxl_go (x := (25, [.ref x0, a1], [.ref x0], f, m)) zh_X9_piece_24 rfl).trans ((zx_getfield zh_X9_piece_25))
theorem ze_X9_piece_28 {d : Nat} {f : zF} {m : zM} {a0 a1 : Value} {y0 : Nat} : zex zTb d zqX9_piece 28 [a0, a1] [.ref y0] f m = if zco (f y0) 1 3 = true then zex zTb d zqX9_piece 31 [a0, a1] [zcf (f y0) 3] f m else none := (zx_getfield zh_X9_piece_28)
theorem ze_X9_piece_31 {d : Nat} {f : zF} {m : zM} {a0 a1 : Value} {y0 : Nat} : zex zTb d zqX9_piece 31 [a0, a1] [.ref y0] f m = if zco (f y0) 3 0 = true then zex zTb d zqX9_piece 34 [a0, a1] [zcf (f y0) 0] f m else none := (zx_getfield zh_X9_piece_31)
theorem ze_X9_piece_34 {d : Nat} {f : zF} {m : zM} {a0 : Value} {x1 : Int32} {y0 : Nat} : zex zTb d zqX9_piece 34 [a0, .int x1] [.ref y0] f m = if zrl (f y0) x1 = true then zex zTb d zqX9_piece 36 [a0, .int x1] [.long (zgl (f y0) x1.toNatClampNeg)] f m else none := (zxl_go (x := (35, [a0, .int x1], [.int x1, .ref y0], f, m)) zh_X9_piece_34 rfl).trans ((zx_laload zh_X9_piece_35))
theorem ze_X9_piece_36 {d : Nat} {f : zF} {m : zM} {a0 a1 : Value} {y0 : Int64} : zex zTb d zqX9_piece 36 [a0, a1] [.long y0] f m = some (.inl (some (.long y0)), f, m) := (zx_lret zh_X9_piece_36 rfl)
-- X9_look
theorem zh_X9_look_0 : zfe zqX9_look.i 0 = some (0, .iload_n 1, 1, 0, 0, 0) := rfl
theorem zh_X9_look_1 : zfe zqX9_look.i 1 = some (1, .iconst 1, 1, 0, 0, 0) := rfl
theorem zh_X9_look_2 : zfe zqX9_look.i 2 = some (2, .if_icmp .lt 9, 3, 0, 0, 0) := rfl
theorem zh_X9_look_5 : zfe zqX9_look.i 5 = some (5, .iload_n 1, 1, 0, 0, 0) := rfl
theorem zh_X9_look_6 : zfe zqX9_look.i 6 = some (6, .bipush 60, 2, 0, 0, 0) := rfl
theorem zh_X9_look_8 : zfe zqX9_look.i 8 = some (8, .if_icmp .le 13, 3, 0, 0, 0) := rfl
theorem zh_X9_look_11 : zfe zqX9_look.i 11 = some (11, .new 58, 3, 0, 124, 62) := rfl
theorem zh_X9_look_21 : zfe zqX9_look.i 21 = some (21, .aload_n 0, 1, 0, 0, 0) := rfl
theorem zh_X9_look_22 : zfe zqX9_look.i 22 = some (22, .iconst 0, 1, 0, 0, 0) := rfl
theorem zh_X9_look_23 : zfe zqX9_look.i 23 = some (23, .putfield 78, 3, 8, 4, 0) := rfl
theorem zh_X9_look_26 : zfe zqX9_look.i 26 = some (26, .aload_n 0, 1, 0, 0, 0) := rfl
theorem zh_X9_look_27 : zfe zqX9_look.i 27 = some (27, .getfield 23, 3, 8, 2, 0) := rfl
theorem zh_X9_look_30 : zfe zqX9_look.i 30 = some (30, .aload_n 0, 1, 0, 0, 0) := rfl
theorem zh_X9_look_31 : zfe zqX9_look.i 31 = some (31, .getfield 16, 3, 8, 1, 0) := rfl
theorem zh_X9_look_34 : zfe zqX9_look.i 34 = some (34, .aload_n 0, 1, 0, 0, 0) := rfl
theorem zh_X9_look_35 : zfe zqX9_look.i 35 = some (35, .getfield 10, 3, 8, 0, 0) := rfl
theorem zh_X9_look_38 : zfe zqX9_look.i 38 = some (38, .iload_n 1, 1, 0, 0, 0) := rfl
theorem zh_X9_look_39 : zfe zqX9_look.i 39 = some (39, .invokevirtual 125, 3, 43, 4, 5) := rfl
theorem zh_X9_look_42 : zfe zqX9_look.i 42 = some (42, .istore_n 2, 1, 0, 0, 0) := rfl
theorem zh_X9_look_43 : zfe zqX9_look.i 43 = some (43, .iload_n 2, 1, 0, 0, 0) := rfl
theorem zh_X9_look_44 : zfe zqX9_look.i 44 = some (44, .ifCond .le 50, 3, 0, 0, 0) := rfl
theorem zh_X9_look_47 : zfe zqX9_look.i 47 = some (47, .aload_n 0, 1, 0, 0, 0) := rfl
theorem zh_X9_look_48 : zfe zqX9_look.i 48 = some (48, .iconst 1, 1, 0, 0, 0) := rfl
theorem zh_X9_look_49 : zfe zqX9_look.i 49 = some (49, .putfield 78, 3, 8, 4, 0) := rfl
theorem zh_X9_look_52 : zfe zqX9_look.i 52 = some (52, .aload_n 0, 1, 0, 0, 0) := rfl
theorem zh_X9_look_53 : zfe zqX9_look.i 53 = some (53, .getfield 23, 3, 8, 2, 0) := rfl
theorem zh_X9_look_56 : zfe zqX9_look.i 56 = some (56, .getfield 129, 3, 5, 0, 0) := rfl
theorem zh_X9_look_59 : zfe zqX9_look.i 59 = some (59, .aload_n 0, 1, 0, 0, 0) := rfl
theorem zh_X9_look_60 : zfe zqX9_look.i 60 = some (60, .getfield 37, 3, 8, 5, 0) := rfl
theorem zh_X9_look_63 : zfe zqX9_look.i 63 = some (63, .invokevirtual 133, 3, 63, 2, 6) := rfl
theorem zh_X9_look_66 : zfe zqX9_look.i 66 = some (66, .aload_n 0, 1, 0, 0, 0) := rfl
theorem zh_X9_look_67 : zfe zqX9_look.i 67 = some (67, .getfield 44, 3, 8, 6, 0) := rfl
theorem zh_X9_look_70 : zfe zqX9_look.i 70 = some (70, .aload_n 0, 1, 0, 0, 0) := rfl
theorem zh_X9_look_71 : zfe zqX9_look.i 71 = some (71, .getfield 37, 3, 8, 5, 0) := rfl
theorem zh_X9_look_74 : zfe zqX9_look.i 74 = some (74, .invokevirtual 139, 3, 35, 2, 4) := rfl
theorem zh_X9_look_77 : zfe zqX9_look.i 77 = some (77, .aload_n 0, 1, 0, 0, 0) := rfl
theorem zh_X9_look_78 : zfe zqX9_look.i 78 = some (78, .aload_n 0, 1, 0, 0, 0) := rfl
theorem zh_X9_look_79 : zfe zqX9_look.i 79 = some (79, .getfield 23, 3, 8, 2, 0) := rfl
theorem zh_X9_look_82 : zfe zqX9_look.i 82 = some (82, .getfield 129, 3, 5, 0, 0) := rfl
theorem zh_X9_look_85 : zfe zqX9_look.i 85 = some (85, .invokevirtual 142, 3, 60, 1, 6) := rfl
theorem zh_X9_look_88 : zfe zqX9_look.i 88 = some (88, .invokestatic 146, 3, 174, 1, 0) := rfl
theorem zh_X9_look_91 : zfe zqX9_look.i 91 = some (91, .putfield 152, 3, 8, 7, 0) := rfl
theorem zh_X9_look_94 : zfe zqX9_look.i 94 = some (94, .iload_n 2, 1, 0, 0, 0) := rfl
theorem zh_X9_look_95 : zfe zqX9_look.i 95 = some (95, .ireturn, 1, 0, 0, 0) := rfl
theorem ze_X9_look_0 {d : Nat} {f : zF} {m : zM} {a0 a2 : Value} {x1 : Int32} : zex zTb d zqX9_look 0 [a0, .int x1, a2] [] f m = if zc2 .lt x1 (I 1) = true then zex zTb d zqX9_look 11 [a0, .int x1, a2] [] f m else zex zTb d zqX9_look 5 [a0, .int x1, a2] [] f m := (zxl_go (x := (1, [a0, .int x1, a2], [.int x1], f, m)) zh_X9_look_0 rfl).trans ((zx_iconst zh_X9_look_1).trans ((zx_icmp (tgt := 11) zh_X9_look_2 rfl)))
theorem ze_X9_look_5 {d : Nat} {f : zF} {m : zM} {a0 a2 : Value} {x1 : Int32} : zex zTb d zqX9_look 5 [a0, .int x1, a2] [] f m = if zc2 .le x1 (I 60) = true then zex zTb d zqX9_look 21 [a0, .int x1, a2] [] f m else zex zTb d zqX9_look 11 [a0, .int x1, a2] [] f m := (zxl_go (x := (6, [a0, .int x1, a2], [.int x1], f, m)) zh_X9_look_5 rfl).trans ((zx_bipush zh_X9_look_6 (by decide)).trans ((zx_icmp (tgt := 21) zh_X9_look_8 rfl)))
theorem ze_X9_look_11 {d : Nat} {f : zF} {m : zM} {a0 a1 a2 : Value} : zex zTb d zqX9_look 11 [a0, a1, a2] [] f m = some (.inr 0, f, (none, m.2.1 + 1, m.2.2 + 6)) := (zx_throw zh_X9_look_11 (Nat.le_of_ble_eq_true rfl))
theorem ze_X9_look_21 {d : Nat} {f : zF} {m : zM} {x0 : Nat} {a1 a2 : Value} : zex zTb d zqX9_look 21 [.ref x0, a1, a2] [] f m = if (zco (f x0) 8 4 && zok (zfty 8 4) (.int (I 0))) = true then zex zTb d zqX9_look 26 [.ref x0, a1, a2] [] (zup f x0 (zcs (f x0) 4 (.int (I 0)))) m else none := (zxl_go (x := (22, [.ref x0, a1, a2], [.ref x0], f, m)) zh_X9_look_21 rfl).trans ((zx_iconst zh_X9_look_22).trans ((zx_putfield zh_X9_look_23)))
theorem ze_X9_look_26 {d : Nat} {f : zF} {m : zM} {x0 : Nat} {a1 a2 : Value} : zex zTb d zqX9_look 26 [.ref x0, a1, a2] [] f m = if zco (f x0) 8 2 = true then zex zTb d zqX9_look 30 [.ref x0, a1, a2] [zcf (f x0) 2] f m else none := (zxl_go (x := (27, [.ref x0, a1, a2], [.ref x0], f, m)) zh_X9_look_26 rfl).trans ((zx_getfield zh_X9_look_27))
theorem ze_X9_look_30 {d : Nat} {f : zF} {m : zM} {x0 y0 : Nat} {a1 a2 : Value} : zex zTb d zqX9_look 30 [.ref x0, a1, a2] [.ref y0] f m = if zco (f x0) 8 1 = true then zex zTb d zqX9_look 34 [.ref x0, a1, a2] [zcf (f x0) 1, .ref y0] f m else none := (zxl_go (x := (31, [.ref x0, a1, a2], [.ref x0, .ref y0], f, m)) zh_X9_look_30 rfl).trans ((zx_getfield zh_X9_look_31))
theorem ze_X9_look_34 {d : Nat} {f : zF} {m : zM} {x0 y0 y1 : Nat} {a1 a2 : Value} : zex zTb d zqX9_look 34 [.ref x0, a1, a2] [.ref y1, .ref y0] f m = if zco (f x0) 8 0 = true then zex zTb d zqX9_look 38 [.ref x0, a1, a2] [zcf (f x0) 0, .ref y1, .ref y0] f m else none := (zxl_go (x := (35, [.ref x0, a1, a2], [.ref x0, .ref y1, .ref y0], f, m)) zh_X9_look_34 rfl).trans ((zx_getfield zh_X9_look_35))
theorem ze_X9_look_38 {d : Nat} {f : zF} {m : zM} {a0 a2 : Value} {x1 : Int32} {y0 y1 y2 : Nat} : zex zTb d zqX9_look 38 [a0, .int x1, a2] [.ref y2, .ref y1, .ref y0] f m = if zisc (f y0) 5 = true then zcal zTb (zrun zTb d 43 [.ref y0, .ref y1, .ref y2, .int x1] f m) d zqX9_look 39 42 [a0, .int x1, a2] [] else none := (zxl_go (x := (39, [a0, .int x1, a2], [.int x1, .ref y2, .ref y1, .ref y0], f, m)) zh_X9_look_38 rfl).trans ((zx_virtual4 zh_X9_look_39 (Nat.le_of_ble_eq_true rfl) rfl rfl (Nat.le_of_ble_eq_true rfl)))
theorem ze_X9_look_42 {d : Nat} {f : zF} {m : zM} {a0 a1 a2 : Value} {y0 : Int32} : zex zTb d zqX9_look 42 [a0, a1, a2] [.int y0] f m = if zc1 .le y0 = true then zex zTb d zqX9_look 94 [a0, (zclr a1), .int y0] [] f m else zex zTb d zqX9_look 47 [a0, (zclr a1), .int y0] [] f m := (zxl_go (x := (43, [a0, (zclr a1), .int y0], [], f, m)) zh_X9_look_42 rfl).trans ((zxl_go (x := (44, [a0, (zclr a1), .int y0], [.int y0], f, m)) zh_X9_look_43 rfl).trans ((zx_if (tgt := 94) zh_X9_look_44 rfl)))
theorem ze_X9_look_47 {d : Nat} {f : zF} {m : zM} {x0 : Nat} {a1 a2 : Value} : zex zTb d zqX9_look 47 [.ref x0, a1, a2] [] f m = if (zco (f x0) 8 4 && zok (zfty 8 4) (.int (I 1))) = true then zex zTb d zqX9_look 52 [.ref x0, a1, a2] [] (zup f x0 (zcs (f x0) 4 (.int (I 1)))) m else none := (zxl_go (x := (48, [.ref x0, a1, a2], [.ref x0], f, m)) zh_X9_look_47 rfl).trans ((zx_iconst zh_X9_look_48).trans ((zx_putfield zh_X9_look_49)))
theorem ze_X9_look_52 {d : Nat} {f : zF} {m : zM} {x0 : Nat} {a1 a2 : Value} : zex zTb d zqX9_look 52 [.ref x0, a1, a2] [] f m = if zco (f x0) 8 2 = true then zex zTb d zqX9_look 56 [.ref x0, a1, a2] [zcf (f x0) 2] f m else none := (zxl_go (x := (53, [.ref x0, a1, a2], [.ref x0], f, m)) zh_X9_look_52 rfl).trans ((zx_getfield zh_X9_look_53))
theorem ze_X9_look_56 {d : Nat} {f : zF} {m : zM} {a0 a1 a2 : Value} {y0 : Nat} : zex zTb d zqX9_look 56 [a0, a1, a2] [.ref y0] f m = if zco (f y0) 5 0 = true then zex zTb d zqX9_look 59 [a0, a1, a2] [zcf (f y0) 0] f m else none := (zx_getfield zh_X9_look_56)
theorem ze_X9_look_59 {d : Nat} {f : zF} {m : zM} {x0 y0 : Nat} {a1 a2 : Value} : zex zTb d zqX9_look 59 [.ref x0, a1, a2] [.ref y0] f m = if zco (f x0) 8 5 = true then zex zTb d zqX9_look 63 [.ref x0, a1, a2] [zcf (f x0) 5, .ref y0] f m else none := (zxl_go (x := (60, [.ref x0, a1, a2], [.ref x0, .ref y0], f, m)) zh_X9_look_59 rfl).trans ((zx_getfield zh_X9_look_60))
theorem ze_X9_look_63 {d : Nat} {f : zF} {m : zM} {a0 a1 a2 : Value} {y0 y1 : Nat} : zex zTb d zqX9_look 63 [a0, a1, a2] [.ref y1, .ref y0] f m = if zisc (f y0) 6 = true then zcal zTb (zrun zTb d 63 [.ref y0, .ref y1] f m) d zqX9_look 63 66 [a0, a1, a2] [] else none := (zx_virtual4 zh_X9_look_63 (Nat.le_of_ble_eq_true rfl) rfl rfl (Nat.le_of_ble_eq_true rfl))
theorem ze_X9_look_66 {d : Nat} {f : zF} {m : zM} {x0 : Nat} {a1 a2 : Value} : zex zTb d zqX9_look 66 [.ref x0, a1, a2] [] f m = if zco (f x0) 8 6 = true then zex zTb d zqX9_look 70 [.ref x0, a1, a2] [zcf (f x0) 6] f m else none := (zxl_go (x := (67, [.ref x0, a1, a2], [.ref x0], f, m)) zh_X9_look_66 rfl).trans ((zx_getfield zh_X9_look_67))
theorem ze_X9_look_70 {d : Nat} {f : zF} {m : zM} {x0 y0 : Nat} {a1 a2 : Value} : zex zTb d zqX9_look 70 [.ref x0, a1, a2] [.ref y0] f m = if zco (f x0) 8 5 = true then zex zTb d zqX9_look 74 [.ref x0, a1, a2] [zcf (f x0) 5, .ref y0] f m else none := (zxl_go (x := (71, [.ref x0, a1, a2], [.ref x0, .ref y0], f, m)) zh_X9_look_70 rfl).trans ((zx_getfield zh_X9_look_71))
theorem ze_X9_look_74 {d : Nat} {f : zF} {m : zM} {a0 a1 a2 : Value} {y0 y1 : Nat} : zex zTb d zqX9_look 74 [a0, a1, a2] [.ref y1, .ref y0] f m = if zisc (f y0) 4 = true then zcal zTb (zrun zTb d 35 [.ref y0, .ref y1] f m) d zqX9_look 74 77 [a0, a1, a2] [] else none := (zx_virtual4 zh_X9_look_74 (Nat.le_of_ble_eq_true rfl) rfl rfl (Nat.le_of_ble_eq_true rfl))
theorem ze_X9_look_77 {d : Nat} {f : zF} {m : zM} {x0 : Nat} {a1 a2 : Value} : zex zTb d zqX9_look 77 [.ref x0, a1, a2] [] f m = if zco (f x0) 8 2 = true then zex zTb d zqX9_look 82 [.ref x0, a1, a2] [zcf (f x0) 2, .ref x0] f m else none := (zxl_go (x := (78, [.ref x0, a1, a2], [.ref x0], f, m)) zh_X9_look_77 rfl).trans ((zxl_go (x := (79, [.ref x0, a1, a2], [.ref x0, .ref x0], f, m)) zh_X9_look_78 rfl).trans ((zx_getfield zh_X9_look_79)))
theorem ze_X9_look_82 {d : Nat} {f : zF} {m : zM} {a0 a1 a2 : Value} {y0 y1 : Nat} : zex zTb d zqX9_look 82 [a0, a1, a2] [.ref y1, .ref y0] f m = if zco (f y1) 5 0 = true then zex zTb d zqX9_look 85 [a0, a1, a2] [zcf (f y1) 0, .ref y0] f m else none := (zx_getfield zh_X9_look_82)
theorem ze_X9_look_85 {d : Nat} {f : zF} {m : zM} {a0 a1 a2 : Value} {y0 y1 : Nat} : zex zTb d zqX9_look 85 [a0, a1, a2] [.ref y1, .ref y0] f m = if zisc (f y1) 6 = true then zcal zTb (zrun zTb d 60 [.ref y1] f m) d zqX9_look 85 88 [a0, a1, a2] [.ref y0] else none := (zx_virtual4 zh_X9_look_85 (Nat.le_of_ble_eq_true rfl) rfl rfl (Nat.le_of_ble_eq_true rfl))
theorem ze_X9_look_88 {d : Nat} {f : zF} {m : zM} {a0 a1 a2 : Value} {y0 : Nat} {y1 : Int64} : zex zTb d zqX9_look 88 [a0, a1, a2] [.long y1, .ref y0] f m = zcal zTb (zrun zTb d 174 [.long y1] f m) d zqX9_look 88 91 [a0, a1, a2] [.ref y0] := ((zx_static zh_X9_look_88 (Nat.le_of_ble_eq_true rfl) rfl rfl).trans (if_pos (Nat.le_of_ble_eq_true rfl)))
theorem ze_X9_look_91 {d : Nat} {f : zF} {m : zM} {a0 a1 a2 : Value} {y0 : Nat} {y1 : Int32} : zex zTb d zqX9_look 91 [a0, a1, a2] [.int y1, .ref y0] f m = if (zco (f y0) 8 7 && zok (zfty 8 7) (.int y1)) = true then zex zTb d zqX9_look 94 [a0, a1, a2] [] (zup f y0 (zcs (f y0) 7 (.int y1))) m else none := (zx_putfield zh_X9_look_91)
theorem ze_X9_look_94 {d : Nat} {f : zF} {m : zM} {a0 a1 : Value} {x2 : Int32} : zex zTb d zqX9_look 94 [a0, a1, .int x2] [] f m = some (.inl (some (.int x2)), f, m) := (zxl_go (x := (95, [a0, a1, .int x2], [.int x2], f, m)) zh_X9_look_94 rfl).trans ((zx_iret zh_X9_look_95 (by first | rfl | decide)))
-- X9_kept
theorem zh_X9_kept_0 : zfe zqX9_kept.i 0 = some (0, .aload_n 0, 1, 0, 0, 0) := rfl
theorem zh_X9_kept_1 : zfe zqX9_kept.i 1 = some (1, .getfield 23, 3, 8, 2, 0) := rfl
theorem zh_X9_kept_4 : zfe zqX9_kept.i 4 = some (4, .getfield 129, 3, 5, 0, 0) := rfl
theorem zh_X9_kept_7 : zfe zqX9_kept.i 7 = some (7, .getfield 155, 3, 6, 10, 0) := rfl
theorem zh_X9_kept_10 : zfe zqX9_kept.i 10 = some (10, .ireturn, 1, 0, 0, 0) := rfl
theorem ze_X9_kept_0 {d : Nat} {f : zF} {m : zM} {x0 : Nat} : zex zTb d zqX9_kept 0 [.ref x0] [] f m = if zco (f x0) 8 2 = true then zex zTb d zqX9_kept 4 [.ref x0] [zcf (f x0) 2] f m else none := (zxl_go (x := (1, [.ref x0], [.ref x0], f, m)) zh_X9_kept_0 rfl).trans ((zx_getfield zh_X9_kept_1))
theorem ze_X9_kept_4 {d : Nat} {f : zF} {m : zM} {a0 : Value} {y0 : Nat} : zex zTb d zqX9_kept 4 [a0] [.ref y0] f m = if zco (f y0) 5 0 = true then zex zTb d zqX9_kept 7 [a0] [zcf (f y0) 0] f m else none := (zx_getfield zh_X9_kept_4)
theorem ze_X9_kept_7 {d : Nat} {f : zF} {m : zM} {a0 : Value} {y0 : Nat} : zex zTb d zqX9_kept 7 [a0] [.ref y0] f m = if zco (f y0) 6 10 = true then zex zTb d zqX9_kept 10 [a0] [zcf (f y0) 10] f m else none := (zx_getfield zh_X9_kept_7)
theorem ze_X9_kept_10 {d : Nat} {f : zF} {m : zM} {a0 : Value} {y0 : Int32} : zex zTb d zqX9_kept 10 [a0] [.int y0] f m = some (.inl (some (.int y0)), f, m) := (zx_iret zh_X9_kept_10 (by first | rfl | decide))
-- X9_isFound
theorem zh_X9_isFound_0 : zfe zqX9_isFound.i 0 = some (0, .aload_n 0, 1, 0, 0, 0) := rfl
theorem zh_X9_isFound_1 : zfe zqX9_isFound.i 1 = some (1, .getfield 78, 3, 8, 4, 0) := rfl
theorem zh_X9_isFound_4 : zfe zqX9_isFound.i 4 = some (4, .ireturn, 1, 0, 0, 0) := rfl
theorem ze_X9_isFound_0 {d : Nat} {f : zF} {m : zM} {x0 : Nat} : zex zTb d zqX9_isFound 0 [.ref x0] [] f m = if zco (f x0) 8 4 = true then zex zTb d zqX9_isFound 4 [.ref x0] [zcf (f x0) 4] f m else none := (zxl_go (x := (1, [.ref x0], [.ref x0], f, m)) zh_X9_isFound_0 rfl).trans ((zx_getfield zh_X9_isFound_1))
theorem ze_X9_isFound_4 {d : Nat} {f : zF} {m : zM} {a0 : Value} {y0 : Int32} : zex zTb d zqX9_isFound 4 [a0] [.int y0] f m = if (y0 = 0 ∨ y0 = 1) then some (.inl (some (.int y0)), f, m) else none := (zx_bret zh_X9_isFound_4 rfl)
-- X9_nodeCount
theorem zh_X9_nodeCount_0 : zfe zqX9_nodeCount.i 0 = some (0, .aload_n 0, 1, 0, 0, 0) := rfl
theorem zh_X9_nodeCount_1 : zfe zqX9_nodeCount.i 1 = some (1, .invokevirtual 156, 3, 99, 1, 8) := rfl
theorem zh_X9_nodeCount_4 : zfe zqX9_nodeCount.i 4 = some (4, .aload_n 0, 1, 0, 0, 0) := rfl
theorem zh_X9_nodeCount_5 : zfe zqX9_nodeCount.i 5 = some (5, .getfield 37, 3, 8, 5, 0) := rfl
theorem zh_X9_nodeCount_8 : zfe zqX9_nodeCount.i 8 = some (8, .getfield 159, 3, 2, 3, 0) := rfl
theorem zh_X9_nodeCount_11 : zfe zqX9_nodeCount.i 11 = some (11, .ireturn, 1, 0, 0, 0) := rfl
theorem ze_X9_nodeCount_0 {d : Nat} {f : zF} {m : zM} {x0 : Nat} : zex zTb d zqX9_nodeCount 0 [.ref x0] [] f m = if zisc (f x0) 8 = true then zcal zTb (zrun zTb d 99 [.ref x0] f m) d zqX9_nodeCount 1 4 [.ref x0] [] else none := (zxl_go (x := (1, [.ref x0], [.ref x0], f, m)) zh_X9_nodeCount_0 rfl).trans ((zx_virtual4 zh_X9_nodeCount_1 (Nat.le_of_ble_eq_true rfl) rfl rfl (Nat.le_of_ble_eq_true rfl)))
theorem ze_X9_nodeCount_4 {d : Nat} {f : zF} {m : zM} {x0 : Nat} : zex zTb d zqX9_nodeCount 4 [.ref x0] [] f m = if zco (f x0) 8 5 = true then zex zTb d zqX9_nodeCount 8 [.ref x0] [zcf (f x0) 5] f m else none := (zxl_go (x := (5, [.ref x0], [.ref x0], f, m)) zh_X9_nodeCount_4 rfl).trans ((zx_getfield zh_X9_nodeCount_5))
theorem ze_X9_nodeCount_8 {d : Nat} {f : zF} {m : zM} {a0 : Value} {y0 : Nat} : zex zTb d zqX9_nodeCount 8 [a0] [.ref y0] f m = if zco (f y0) 2 3 = true then zex zTb d zqX9_nodeCount 11 [a0] [zcf (f y0) 3] f m else none := (zx_getfield zh_X9_nodeCount_8)
theorem ze_X9_nodeCount_11 {d : Nat} {f : zF} {m : zM} {a0 : Value} {y0 : Int32} : zex zTb d zqX9_nodeCount 11 [a0] [.int y0] f m = some (.inl (some (.int y0)), f, m) := (zx_iret zh_X9_nodeCount_11 (by first | rfl | decide))
-- X9_kind
theorem zh_X9_kind_0 : zfe zqX9_kind.i 0 = some (0, .aload_n 0, 1, 0, 0, 0) := rfl
theorem zh_X9_kind_1 : zfe zqX9_kind.i 1 = some (1, .invokevirtual 156, 3, 99, 1, 8) := rfl
theorem zh_X9_kind_4 : zfe zqX9_kind.i 4 = some (4, .aload_n 0, 1, 0, 0, 0) := rfl
theorem zh_X9_kind_5 : zfe zqX9_kind.i 5 = some (5, .iload_n 1, 1, 0, 0, 0) := rfl
theorem zh_X9_kind_6 : zfe zqX9_kind.i 6 = some (6, .invokevirtual 160, 3, 100, 2, 8) := rfl
theorem zh_X9_kind_9 : zfe zqX9_kind.i 9 = some (9, .aload_n 0, 1, 0, 0, 0) := rfl
theorem zh_X9_kind_10 : zfe zqX9_kind.i 10 = some (10, .getfield 37, 3, 8, 5, 0) := rfl
theorem zh_X9_kind_13 : zfe zqX9_kind.i 13 = some (13, .iload_n 1, 1, 0, 0, 0) := rfl
theorem zh_X9_kind_14 : zfe zqX9_kind.i 14 = some (14, .invokevirtual 164, 3, 12, 2, 2) := rfl
theorem zh_X9_kind_17 : zfe zqX9_kind.i 17 = some (17, .ireturn, 1, 0, 0, 0) := rfl
theorem ze_X9_kind_0 {d : Nat} {f : zF} {m : zM} {x0 : Nat} {a1 : Value} : zex zTb d zqX9_kind 0 [.ref x0, a1] [] f m = if zisc (f x0) 8 = true then zcal zTb (zrun zTb d 99 [.ref x0] f m) d zqX9_kind 1 4 [.ref x0, a1] [] else none := (zxl_go (x := (1, [.ref x0, a1], [.ref x0], f, m)) zh_X9_kind_0 rfl).trans ((zx_virtual4 zh_X9_kind_1 (Nat.le_of_ble_eq_true rfl) rfl rfl (Nat.le_of_ble_eq_true rfl)))
theorem ze_X9_kind_4 {d : Nat} {f : zF} {m : zM} {x0 : Nat} {x1 : Int32} : zex zTb d zqX9_kind 4 [.ref x0, .int x1] [] f m = if zisc (f x0) 8 = true then zcal zTb (zrun zTb d 100 [.ref x0, .int x1] f m) d zqX9_kind 6 9 [.ref x0, .int x1] [] else none := (zxl_go (x := (5, [.ref x0, .int x1], [.ref x0], f, m)) zh_X9_kind_4 rfl).trans ((zxl_go (x := (6, [.ref x0, .int x1], [.int x1, .ref x0], f, m)) zh_X9_kind_5 rfl).trans ((zx_virtual4 zh_X9_kind_6 (Nat.le_of_ble_eq_true rfl) rfl rfl (Nat.le_of_ble_eq_true rfl))))
theorem ze_X9_kind_9 {d : Nat} {f : zF} {m : zM} {x0 : Nat} {a1 : Value} : zex zTb d zqX9_kind 9 [.ref x0, a1] [] f m = if zco (f x0) 8 5 = true then zex zTb d zqX9_kind 13 [.ref x0, a1] [zcf (f x0) 5] f m else none := (zxl_go (x := (10, [.ref x0, a1], [.ref x0], f, m)) zh_X9_kind_9 rfl).trans ((zx_getfield zh_X9_kind_10))
theorem ze_X9_kind_13 {d : Nat} {f : zF} {m : zM} {a0 : Value} {x1 : Int32} {y0 : Nat} : zex zTb d zqX9_kind 13 [a0, .int x1] [.ref y0] f m = if zisc (f y0) 2 = true then zcal zTb (zrun zTb d 12 [.ref y0, .int x1] f m) d zqX9_kind 14 17 [a0, .int x1] [] else none := (zxl_go (x := (14, [a0, .int x1], [.int x1, .ref y0], f, m)) zh_X9_kind_13 rfl).trans ((zx_virtual4 zh_X9_kind_14 (Nat.le_of_ble_eq_true rfl) rfl rfl (Nat.le_of_ble_eq_true rfl)))
theorem ze_X9_kind_17 {d : Nat} {f : zF} {m : zM} {a0 a1 : Value} {y0 : Int32} : zex zTb d zqX9_kind 17 [a0, a1] [.int y0] f m = some (.inl (some (.int y0)), f, m) := (zx_iret zh_X9_kind_17 (by first | rfl | decide))
-- X9_part
theorem zh_X9_part_0 : zfe zqX9_part.i 0 = some (0, .aload_n 0, 1, 0, 0, 0) := rfl
theorem zh_X9_part_1 : zfe zqX9_part.i 1 = some (1, .invokevirtual 156, 3, 99, 1, 8) := rfl
theorem zh_X9_part_4 : zfe zqX9_part.i 4 = some (4, .aload_n 0, 1, 0, 0, 0) := rfl
theorem zh_X9_part_5 : zfe zqX9_part.i 5 = some (5, .iload_n 1, 1, 0, 0, 0) := rfl
theorem zh_X9_part_6 : zfe zqX9_part.i 6 = some (6, .invokevirtual 160, 3, 100, 2, 8) := rfl
theorem zh_X9_part_9 : zfe zqX9_part.i 9 = some (9, .aload_n 0, 1, 0, 0, 0) := rfl
theorem zh_X9_part_10 : zfe zqX9_part.i 10 = some (10, .getfield 37, 3, 8, 5, 0) := rfl
theorem zh_X9_part_13 : zfe zqX9_part.i 13 = some (13, .iload_n 1, 1, 0, 0, 0) := rfl
theorem zh_X9_part_14 : zfe zqX9_part.i 14 = some (14, .invokevirtual 164, 3, 12, 2, 2) := rfl
theorem zh_X9_part_17 : zfe zqX9_part.i 17 = some (17, .istore_n 3, 1, 0, 0, 0) := rfl
theorem zh_X9_part_18 : zfe zqX9_part.i 18 = some (18, .iload_n 2, 1, 0, 0, 0) := rfl
theorem zh_X9_part_19 : zfe zqX9_part.i 19 = some (19, .ifCond .eq 21, 3, 0, 0, 0) := rfl
theorem zh_X9_part_22 : zfe zqX9_part.i 22 = some (22, .iload_n 3, 1, 0, 0, 0) := rfl
theorem zh_X9_part_23 : zfe zqX9_part.i 23 = some (23, .iconst 5, 1, 0, 0, 0) := rfl
theorem zh_X9_part_24 : zfe zqX9_part.i 24 = some (24, .if_icmp .lt 14, 3, 0, 0, 0) := rfl
theorem zh_X9_part_27 : zfe zqX9_part.i 27 = some (27, .aload_n 0, 1, 0, 0, 0) := rfl
theorem zh_X9_part_28 : zfe zqX9_part.i 28 = some (28, .getfield 37, 3, 8, 5, 0) := rfl
theorem zh_X9_part_31 : zfe zqX9_part.i 31 = some (31, .iload_n 1, 1, 0, 0, 0) := rfl
theorem zh_X9_part_32 : zfe zqX9_part.i 32 = some (32, .invokevirtual 168, 3, 14, 2, 2) := rfl
theorem zh_X9_part_35 : zfe zqX9_part.i 35 = some (35, .goto 4, 3, 0, 0, 0) := rfl
theorem zh_X9_part_38 : zfe zqX9_part.i 38 = some (38, .iconst (-1), 1, 0, 0, 0) := rfl
theorem zh_X9_part_39 : zfe zqX9_part.i 39 = some (39, .ireturn, 1, 0, 0, 0) := rfl
theorem zh_X9_part_40 : zfe zqX9_part.i 40 = some (40, .iload_n 3, 1, 0, 0, 0) := rfl
theorem zh_X9_part_41 : zfe zqX9_part.i 41 = some (41, .iconst 2, 1, 0, 0, 0) := rfl
theorem zh_X9_part_42 : zfe zqX9_part.i 42 = some (42, .if_icmp .ne 12, 3, 0, 0, 0) := rfl
theorem zh_X9_part_45 : zfe zqX9_part.i 45 = some (45, .aload_n 0, 1, 0, 0, 0) := rfl
theorem zh_X9_part_46 : zfe zqX9_part.i 46 = some (46, .getfield 37, 3, 8, 5, 0) := rfl
theorem zh_X9_part_49 : zfe zqX9_part.i 49 = some (49, .iload_n 1, 1, 0, 0, 0) := rfl
theorem zh_X9_part_50 : zfe zqX9_part.i 50 = some (50, .invokevirtual 171, 3, 13, 2, 2) := rfl
theorem zh_X9_part_53 : zfe zqX9_part.i 53 = some (53, .ireturn, 1, 0, 0, 0) := rfl
theorem zh_X9_part_54 : zfe zqX9_part.i 54 = some (54, .iload_n 3, 1, 0, 0, 0) := rfl
theorem zh_X9_part_55 : zfe zqX9_part.i 55 = some (55, .iconst 3, 1, 0, 0, 0) := rfl
theorem zh_X9_part_56 : zfe zqX9_part.i 56 = some (56, .if_icmp .lt 9, 3, 0, 0, 0) := rfl
theorem zh_X9_part_59 : zfe zqX9_part.i 59 = some (59, .iload_n 1, 1, 0, 0, 0) := rfl
theorem zh_X9_part_60 : zfe zqX9_part.i 60 = some (60, .iconst 1, 1, 0, 0, 0) := rfl
theorem zh_X9_part_61 : zfe zqX9_part.i 61 = some (61, .iadd, 1, 0, 0, 0) := rfl
theorem zh_X9_part_62 : zfe zqX9_part.i 62 = some (62, .goto 4, 3, 0, 0, 0) := rfl
theorem zh_X9_part_65 : zfe zqX9_part.i 65 = some (65, .iconst (-1), 1, 0, 0, 0) := rfl
theorem zh_X9_part_66 : zfe zqX9_part.i 66 = some (66, .ireturn, 1, 0, 0, 0) := rfl
theorem ze_X9_part_0 {d : Nat} {f : zF} {m : zM} {x0 : Nat} {a1 a2 a3 : Value} : zex zTb d zqX9_part 0 [.ref x0, a1, a2, a3] [] f m = if zisc (f x0) 8 = true then zcal zTb (zrun zTb d 99 [.ref x0] f m) d zqX9_part 1 4 [.ref x0, a1, a2, a3] [] else none := (zxl_go (x := (1, [.ref x0, a1, a2, a3], [.ref x0], f, m)) zh_X9_part_0 rfl).trans ((zx_virtual4 zh_X9_part_1 (Nat.le_of_ble_eq_true rfl) rfl rfl (Nat.le_of_ble_eq_true rfl)))
theorem ze_X9_part_4 {d : Nat} {f : zF} {m : zM} {x0 : Nat} {x1 : Int32} {a2 a3 : Value} : zex zTb d zqX9_part 4 [.ref x0, .int x1, a2, a3] [] f m = if zisc (f x0) 8 = true then zcal zTb (zrun zTb d 100 [.ref x0, .int x1] f m) d zqX9_part 6 9 [.ref x0, .int x1, a2, a3] [] else none := (zxl_go (x := (5, [.ref x0, .int x1, a2, a3], [.ref x0], f, m)) zh_X9_part_4 rfl).trans ((zxl_go (x := (6, [.ref x0, .int x1, a2, a3], [.int x1, .ref x0], f, m)) zh_X9_part_5 rfl).trans ((zx_virtual4 zh_X9_part_6 (Nat.le_of_ble_eq_true rfl) rfl rfl (Nat.le_of_ble_eq_true rfl))))
theorem ze_X9_part_9 {d : Nat} {f : zF} {m : zM} {x0 : Nat} {a1 a2 a3 : Value} : zex zTb d zqX9_part 9 [.ref x0, a1, a2, a3] [] f m = if zco (f x0) 8 5 = true then zex zTb d zqX9_part 13 [.ref x0, a1, a2, a3] [zcf (f x0) 5] f m else none := (zxl_go (x := (10, [.ref x0, a1, a2, a3], [.ref x0], f, m)) zh_X9_part_9 rfl).trans ((zx_getfield zh_X9_part_10))
theorem ze_X9_part_13 {d : Nat} {f : zF} {m : zM} {a0 a2 a3 : Value} {x1 : Int32} {y0 : Nat} : zex zTb d zqX9_part 13 [a0, .int x1, a2, a3] [.ref y0] f m = if zisc (f y0) 2 = true then zcal zTb (zrun zTb d 12 [.ref y0, .int x1] f m) d zqX9_part 14 17 [a0, .int x1, a2, a3] [] else none := (zxl_go (x := (14, [a0, .int x1, a2, a3], [.int x1, .ref y0], f, m)) zh_X9_part_13 rfl).trans ((zx_virtual4 zh_X9_part_14 (Nat.le_of_ble_eq_true rfl) rfl rfl (Nat.le_of_ble_eq_true rfl)))
theorem ze_X9_part_17 {d : Nat} {f : zF} {m : zM} {a0 a1 a3 : Value} {x2 y0 : Int32} : zex zTb d zqX9_part 17 [a0, a1, .int x2, a3] [.int y0] f m = if zc1 .eq x2 = true then zex zTb d zqX9_part 40 [a0, a1, .int x2, .int y0] [] f m else zex zTb d zqX9_part 22 [a0, a1, .int x2, .int y0] [] f m := (zxl_go (x := (18, [a0, a1, .int x2, .int y0], [], f, m)) zh_X9_part_17 rfl).trans ((zxl_go (x := (19, [a0, a1, .int x2, .int y0], [.int x2], f, m)) zh_X9_part_18 rfl).trans ((zx_if (tgt := 40) zh_X9_part_19 rfl)))
theorem ze_X9_part_22 {d : Nat} {f : zF} {m : zM} {a0 a1 a2 : Value} {x3 : Int32} : zex zTb d zqX9_part 22 [a0, a1, a2, .int x3] [] f m = if zc2 .lt x3 (I 5) = true then zex zTb d zqX9_part 38 [a0, a1, a2, .int x3] [] f m else zex zTb d zqX9_part 27 [a0, a1, a2, .int x3] [] f m := (zxl_go (x := (23, [a0, a1, a2, .int x3], [.int x3], f, m)) zh_X9_part_22 rfl).trans ((zx_iconst zh_X9_part_23).trans ((zx_icmp (tgt := 38) zh_X9_part_24 rfl)))
theorem ze_X9_part_27 {d : Nat} {f : zF} {m : zM} {x0 : Nat} {a1 a2 a3 : Value} : zex zTb d zqX9_part 27 [.ref x0, a1, a2, a3] [] f m = if zco (f x0) 8 5 = true then zex zTb d zqX9_part 31 [.ref x0, a1, a2, a3] [zcf (f x0) 5] f m else none := (zxl_go (x := (28, [.ref x0, a1, a2, a3], [.ref x0], f, m)) zh_X9_part_27 rfl).trans ((zx_getfield zh_X9_part_28))
theorem ze_X9_part_31 {d : Nat} {f : zF} {m : zM} {a0 a2 a3 : Value} {x1 : Int32} {y0 : Nat} : zex zTb d zqX9_part 31 [a0, .int x1, a2, a3] [.ref y0] f m = if zisc (f y0) 2 = true then zcal zTb (zrun zTb d 14 [.ref y0, .int x1] f m) d zqX9_part 32 35 [a0, .int x1, a2, a3] [] else none := (zxl_go (x := (32, [a0, .int x1, a2, a3], [.int x1, .ref y0], f, m)) zh_X9_part_31 rfl).trans ((zx_virtual4 zh_X9_part_32 (Nat.le_of_ble_eq_true rfl) rfl rfl (Nat.le_of_ble_eq_true rfl)))
theorem ze_X9_part_35 {d : Nat} {f : zF} {m : zM} {a0 a1 a2 a3 : Value} {y0 : Int32} : zex zTb d zqX9_part 35 [a0, a1, a2, a3] [.int y0] f m = some (.inl (some (.int y0)), f, m) := (zx_goto zh_X9_part_35 rfl).trans ((zx_iret zh_X9_part_39 (by first | rfl | decide)))
theorem ze_X9_part_38 {d : Nat} {f : zF} {m : zM} {a0 a1 a2 a3 : Value} : zex zTb d zqX9_part 38 [a0, a1, a2, a3] [] f m = some (.inl (some (.int (I (-1)))), f, m) := (zx_iconst zh_X9_part_38).trans ((zx_iret zh_X9_part_39 (by first | rfl | decide)))
theorem ze_X9_part_40 {d : Nat} {f : zF} {m : zM} {a0 a1 a2 : Value} {x3 : Int32} : zex zTb d zqX9_part 40 [a0, a1, a2, .int x3] [] f m = if zc2 .ne x3 (I 2) = true then zex zTb d zqX9_part 54 [a0, a1, a2, .int x3] [] f m else zex zTb d zqX9_part 45 [a0, a1, a2, .int x3] [] f m := (zxl_go (x := (41, [a0, a1, a2, .int x3], [.int x3], f, m)) zh_X9_part_40 rfl).trans ((zx_iconst zh_X9_part_41).trans ((zx_icmp (tgt := 54) zh_X9_part_42 rfl)))
theorem ze_X9_part_45 {d : Nat} {f : zF} {m : zM} {x0 : Nat} {a1 a2 a3 : Value} : zex zTb d zqX9_part 45 [.ref x0, a1, a2, a3] [] f m = if zco (f x0) 8 5 = true then zex zTb d zqX9_part 49 [.ref x0, a1, a2, a3] [zcf (f x0) 5] f m else none := (zxl_go (x := (46, [.ref x0, a1, a2, a3], [.ref x0], f, m)) zh_X9_part_45 rfl).trans ((zx_getfield zh_X9_part_46))
theorem ze_X9_part_49 {d : Nat} {f : zF} {m : zM} {a0 a2 a3 : Value} {x1 : Int32} {y0 : Nat} : zex zTb d zqX9_part 49 [a0, .int x1, a2, a3] [.ref y0] f m = if zisc (f y0) 2 = true then zcal zTb (zrun zTb d 13 [.ref y0, .int x1] f m) d zqX9_part 50 53 [a0, .int x1, a2, a3] [] else none := (zxl_go (x := (50, [a0, .int x1, a2, a3], [.int x1, .ref y0], f, m)) zh_X9_part_49 rfl).trans ((zx_virtual4 zh_X9_part_50 (Nat.le_of_ble_eq_true rfl) rfl rfl (Nat.le_of_ble_eq_true rfl)))
theorem ze_X9_part_53 {d : Nat} {f : zF} {m : zM} {a0 a1 a2 a3 : Value} {y0 : Int32} : zex zTb d zqX9_part 53 [a0, a1, a2, a3] [.int y0] f m = some (.inl (some (.int y0)), f, m) := (zx_iret zh_X9_part_53 (by first | rfl | decide))
theorem ze_X9_part_54 {d : Nat} {f : zF} {m : zM} {a0 a1 a2 : Value} {x3 : Int32} : zex zTb d zqX9_part 54 [a0, a1, a2, .int x3] [] f m = if zc2 .lt x3 (I 3) = true then zex zTb d zqX9_part 65 [a0, a1, a2, .int x3] [] f m else zex zTb d zqX9_part 59 [a0, a1, a2, .int x3] [] f m := (zxl_go (x := (55, [a0, a1, a2, .int x3], [.int x3], f, m)) zh_X9_part_54 rfl).trans ((zx_iconst zh_X9_part_55).trans ((zx_icmp (tgt := 65) zh_X9_part_56 rfl)))
theorem ze_X9_part_59 {d : Nat} {f : zF} {m : zM} {a0 a2 a3 : Value} {x1 : Int32} : zex zTb d zqX9_part 59 [a0, .int x1, a2, a3] [] f m = some (.inl (some (.int (x1 + (I 1)))), f, m) := (zxl_go (x := (60, [a0, .int x1, a2, a3], [.int x1], f, m)) zh_X9_part_59 rfl).trans ((zx_iconst zh_X9_part_60).trans ((zxl_go (x := (62, [a0, .int x1, a2, a3], [.int (x1 + (I 1))], f, m)) zh_X9_part_61 rfl).trans ((zx_goto zh_X9_part_62 rfl).trans ((zx_iret zh_X9_part_66 (by first | rfl | decide))))))
theorem ze_X9_part_65 {d : Nat} {f : zF} {m : zM} {a0 a1 a2 a3 : Value} : zex zTb d zqX9_part 65 [a0, a1, a2, a3] [] f m = some (.inl (some (.int (I (-1)))), f, m) := (zx_iconst zh_X9_part_65).trans ((zx_iret zh_X9_part_66 (by first | rfl | decide)))
-- X9_textSize
theorem zh_X9_textSize_0 : zfe zqX9_textSize.i 0 = some (0, .aload_n 0, 1, 0, 0, 0) := rfl
theorem zh_X9_textSize_1 : zfe zqX9_textSize.i 1 = some (1, .invokevirtual 156, 3, 99, 1, 8) := rfl
theorem zh_X9_textSize_4 : zfe zqX9_textSize.i 4 = some (4, .aload_n 0, 1, 0, 0, 0) := rfl
theorem zh_X9_textSize_5 : zfe zqX9_textSize.i 5 = some (5, .getfield 44, 3, 8, 6, 0) := rfl
theorem zh_X9_textSize_8 : zfe zqX9_textSize.i 8 = some (8, .getfield 174, 3, 4, 1, 0) := rfl
theorem zh_X9_textSize_11 : zfe zqX9_textSize.i 11 = some (11, .ireturn, 1, 0, 0, 0) := rfl
theorem ze_X9_textSize_0 {d : Nat} {f : zF} {m : zM} {x0 : Nat} : zex zTb d zqX9_textSize 0 [.ref x0] [] f m = if zisc (f x0) 8 = true then zcal zTb (zrun zTb d 99 [.ref x0] f m) d zqX9_textSize 1 4 [.ref x0] [] else none := (zxl_go (x := (1, [.ref x0], [.ref x0], f, m)) zh_X9_textSize_0 rfl).trans ((zx_virtual4 zh_X9_textSize_1 (Nat.le_of_ble_eq_true rfl) rfl rfl (Nat.le_of_ble_eq_true rfl)))
theorem ze_X9_textSize_4 {d : Nat} {f : zF} {m : zM} {x0 : Nat} : zex zTb d zqX9_textSize 4 [.ref x0] [] f m = if zco (f x0) 8 6 = true then zex zTb d zqX9_textSize 8 [.ref x0] [zcf (f x0) 6] f m else none := (zxl_go (x := (5, [.ref x0], [.ref x0], f, m)) zh_X9_textSize_4 rfl).trans ((zx_getfield zh_X9_textSize_5))
theorem ze_X9_textSize_8 {d : Nat} {f : zF} {m : zM} {a0 : Value} {y0 : Nat} : zex zTb d zqX9_textSize 8 [a0] [.ref y0] f m = if zco (f y0) 4 1 = true then zex zTb d zqX9_textSize 11 [a0] [zcf (f y0) 1] f m else none := (zx_getfield zh_X9_textSize_8)
theorem ze_X9_textSize_11 {d : Nat} {f : zF} {m : zM} {a0 : Value} {y0 : Int32} : zex zTb d zqX9_textSize 11 [a0] [.int y0] f m = some (.inl (some (.int y0)), f, m) := (zx_iret zh_X9_textSize_11 (by first | rfl | decide))
-- X9_text
theorem zh_X9_text_0 : zfe zqX9_text.i 0 = some (0, .aload_n 0, 1, 0, 0, 0) := rfl
theorem zh_X9_text_1 : zfe zqX9_text.i 1 = some (1, .invokevirtual 156, 3, 99, 1, 8) := rfl
theorem zh_X9_text_4 : zfe zqX9_text.i 4 = some (4, .aload_n 0, 1, 0, 0, 0) := rfl
theorem zh_X9_text_5 : zfe zqX9_text.i 5 = some (5, .getfield 44, 3, 8, 6, 0) := rfl
theorem zh_X9_text_8 : zfe zqX9_text.i 8 = some (8, .iload_n 1, 1, 0, 0, 0) := rfl
theorem zh_X9_text_9 : zfe zqX9_text.i 9 = some (9, .invokevirtual 175, 3, 34, 2, 4) := rfl
theorem zh_X9_text_12 : zfe zqX9_text.i 12 = some (12, .ifCond .ne 13, 3, 0, 0, 0) := rfl
theorem zh_X9_text_15 : zfe zqX9_text.i 15 = some (15, .new 90, 3, 2, 177, 94) := rfl
theorem zh_X9_text_25 : zfe zqX9_text.i 25 = some (25, .aload_n 0, 1, 0, 0, 0) := rfl
theorem zh_X9_text_26 : zfe zqX9_text.i 26 = some (26, .getfield 44, 3, 8, 6, 0) := rfl
theorem zh_X9_text_29 : zfe zqX9_text.i 29 = some (29, .getfield 178, 3, 4, 0, 0) := rfl
theorem zh_X9_text_32 : zfe zqX9_text.i 32 = some (32, .iload_n 1, 1, 0, 0, 0) := rfl
theorem zh_X9_text_33 : zfe zqX9_text.i 33 = some (33, .iaload, 1, 0, 0, 0) := rfl
theorem zh_X9_text_34 : zfe zqX9_text.i 34 = some (34, .ireturn, 1, 0, 0, 0) := rfl
theorem ze_X9_text_0 {d : Nat} {f : zF} {m : zM} {x0 : Nat} {a1 : Value} : zex zTb d zqX9_text 0 [.ref x0, a1] [] f m = if zisc (f x0) 8 = true then zcal zTb (zrun zTb d 99 [.ref x0] f m) d zqX9_text 1 4 [.ref x0, a1] [] else none := (zxl_go (x := (1, [.ref x0, a1], [.ref x0], f, m)) zh_X9_text_0 rfl).trans ((zx_virtual4 zh_X9_text_1 (Nat.le_of_ble_eq_true rfl) rfl rfl (Nat.le_of_ble_eq_true rfl)))
theorem ze_X9_text_4 {d : Nat} {f : zF} {m : zM} {x0 : Nat} {a1 : Value} : zex zTb d zqX9_text 4 [.ref x0, a1] [] f m = if zco (f x0) 8 6 = true then zex zTb d zqX9_text 8 [.ref x0, a1] [zcf (f x0) 6] f m else none := (zxl_go (x := (5, [.ref x0, a1], [.ref x0], f, m)) zh_X9_text_4 rfl).trans ((zx_getfield zh_X9_text_5))
theorem ze_X9_text_8 {d : Nat} {f : zF} {m : zM} {a0 : Value} {x1 : Int32} {y0 : Nat} : zex zTb d zqX9_text 8 [a0, .int x1] [.ref y0] f m = if zisc (f y0) 4 = true then zcal zTb (zrun zTb d 34 [.ref y0, .int x1] f m) d zqX9_text 9 12 [a0, .int x1] [] else none := (zxl_go (x := (9, [a0, .int x1], [.int x1, .ref y0], f, m)) zh_X9_text_8 rfl).trans ((zx_virtual4 zh_X9_text_9 (Nat.le_of_ble_eq_true rfl) rfl rfl (Nat.le_of_ble_eq_true rfl)))
theorem ze_X9_text_12 {d : Nat} {f : zF} {m : zM} {a0 a1 : Value} {y0 : Int32} : zex zTb d zqX9_text 12 [a0, a1] [.int y0] f m = if zc1 .ne y0 = true then zex zTb d zqX9_text 25 [a0, a1] [] f m else zex zTb d zqX9_text 15 [a0, a1] [] f m := (zx_if (tgt := 25) zh_X9_text_12 rfl)
theorem ze_X9_text_15 {d : Nat} {f : zF} {m : zM} {a0 a1 : Value} : zex zTb d zqX9_text 15 [a0, a1] [] f m = some (.inr 2, f, (none, m.2.1 + 1, m.2.2 + 6)) := (zx_throw zh_X9_text_15 (Nat.le_of_ble_eq_true rfl))
theorem ze_X9_text_25 {d : Nat} {f : zF} {m : zM} {x0 : Nat} {a1 : Value} : zex zTb d zqX9_text 25 [.ref x0, a1] [] f m = if zco (f x0) 8 6 = true then zex zTb d zqX9_text 29 [.ref x0, a1] [zcf (f x0) 6] f m else none := (zxl_go (x := (26, [.ref x0, a1], [.ref x0], f, m)) zh_X9_text_25 rfl).trans ((zx_getfield zh_X9_text_26))
theorem ze_X9_text_29 {d : Nat} {f : zF} {m : zM} {a0 a1 : Value} {y0 : Nat} : zex zTb d zqX9_text 29 [a0, a1] [.ref y0] f m = if zco (f y0) 4 0 = true then zex zTb d zqX9_text 32 [a0, a1] [zcf (f y0) 0] f m else none := (zx_getfield zh_X9_text_29)
theorem ze_X9_text_32 {d : Nat} {f : zF} {m : zM} {a0 : Value} {x1 : Int32} {y0 : Nat} : zex zTb d zqX9_text 32 [a0, .int x1] [.ref y0] f m = if zr8 (f y0) x1 = true then zex zTb d zqX9_text 34 [a0, .int x1] [.int (zgi (f y0) x1.toNatClampNeg)] f m else none := (zxl_go (x := (33, [a0, .int x1], [.int x1, .ref y0], f, m)) zh_X9_text_32 rfl).trans ((zx_iaload zh_X9_text_33))
theorem ze_X9_text_34 {d : Nat} {f : zF} {m : zM} {a0 a1 : Value} {y0 : Int32} : zex zTb d zqX9_text 34 [a0, a1] [.int y0] f m = some (.inl (some (.int y0)), f, m) := (zx_iret zh_X9_text_34 (by first | rfl | decide))
-- X9_matches
theorem zh_X9_matches_0 : zfe zqX9_matches.i 0 = some (0, .aload_n 0, 1, 0, 0, 0) := rfl
theorem zh_X9_matches_1 : zfe zqX9_matches.i 1 = some (1, .invokevirtual 156, 3, 99, 1, 8) := rfl
theorem zh_X9_matches_4 : zfe zqX9_matches.i 4 = some (4, .lload_n 1, 1, 0, 0, 0) := rfl
theorem zh_X9_matches_5 : zfe zqX9_matches.i 5 = some (5, .invokestatic 181, 3, 101, 1, 0) := rfl
theorem zh_X9_matches_8 : zfe zqX9_matches.i 8 = some (8, .aload_n 0, 1, 0, 0, 0) := rfl
theorem zh_X9_matches_9 : zfe zqX9_matches.i 9 = some (9, .getfield 30, 3, 8, 3, 0) := rfl
theorem zh_X9_matches_12 : zfe zqX9_matches.i 12 = some (12, .aload_n 0, 1, 0, 0, 0) := rfl
theorem zh_X9_matches_13 : zfe zqX9_matches.i 13 = some (13, .getfield 37, 3, 8, 5, 0) := rfl
theorem zh_X9_matches_16 : zfe zqX9_matches.i 16 = some (16, .lload_n 1, 1, 0, 0, 0) := rfl
theorem zh_X9_matches_17 : zfe zqX9_matches.i 17 = some (17, .invokestatic 65, 3, 72, 1, 0) := rfl
theorem zh_X9_matches_20 : zfe zqX9_matches.i 20 = some (20, .invokevirtual 185, 3, 65, 3, 7) := rfl
theorem zh_X9_matches_23 : zfe zqX9_matches.i 23 = some (23, .ireturn, 1, 0, 0, 0) := rfl
theorem ze_X9_matches_0 {d : Nat} {f : zF} {m : zM} {x0 : Nat} {a1 a2 : Value} : zex zTb d zqX9_matches 0 [.ref x0, a1, a2] [] f m = if zisc (f x0) 8 = true then zcal zTb (zrun zTb d 99 [.ref x0] f m) d zqX9_matches 1 4 [.ref x0, a1, a2] [] else none := (zxl_go (x := (1, [.ref x0, a1, a2], [.ref x0], f, m)) zh_X9_matches_0 rfl).trans ((zx_virtual4 zh_X9_matches_1 (Nat.le_of_ble_eq_true rfl) rfl rfl (Nat.le_of_ble_eq_true rfl)))
theorem ze_X9_matches_4 {d : Nat} {f : zF} {m : zM} {a0 a2 : Value} {x1 : Int64} : zex zTb d zqX9_matches 4 [a0, .long x1, a2] [] f m = zcal zTb (zrun zTb d 101 [.long x1] f m) d zqX9_matches 5 8 [a0, .long x1, a2] [] := (zxl_go (x := (5, [a0, .long x1, a2], [.long x1], f, m)) zh_X9_matches_4 rfl).trans (((zx_static zh_X9_matches_5 (Nat.le_of_ble_eq_true rfl) rfl rfl).trans (if_pos (Nat.le_of_ble_eq_true rfl))))
theorem ze_X9_matches_8 {d : Nat} {f : zF} {m : zM} {x0 : Nat} {a1 a2 : Value} : zex zTb d zqX9_matches 8 [.ref x0, a1, a2] [] f m = if zco (f x0) 8 3 = true then zex zTb d zqX9_matches 12 [.ref x0, a1, a2] [zcf (f x0) 3] f m else none := (zxl_go (x := (9, [.ref x0, a1, a2], [.ref x0], f, m)) zh_X9_matches_8 rfl).trans ((zx_getfield zh_X9_matches_9))
theorem ze_X9_matches_12 {d : Nat} {f : zF} {m : zM} {x0 y0 : Nat} {a1 a2 : Value} : zex zTb d zqX9_matches 12 [.ref x0, a1, a2] [.ref y0] f m = if zco (f x0) 8 5 = true then zex zTb d zqX9_matches 16 [.ref x0, a1, a2] [zcf (f x0) 5, .ref y0] f m else none := (zxl_go (x := (13, [.ref x0, a1, a2], [.ref x0, .ref y0], f, m)) zh_X9_matches_12 rfl).trans ((zx_getfield zh_X9_matches_13))
theorem ze_X9_matches_16 {d : Nat} {f : zF} {m : zM} {a0 a2 : Value} {x1 : Int64} {y0 y1 : Nat} : zex zTb d zqX9_matches 16 [a0, .long x1, a2] [.ref y1, .ref y0] f m = zcal zTb (zrun zTb d 72 [.long x1] f m) d zqX9_matches 17 20 [a0, .long x1, a2] [.ref y1, .ref y0] := (zxl_go (x := (17, [a0, .long x1, a2], [.long x1, .ref y1, .ref y0], f, m)) zh_X9_matches_16 rfl).trans (((zx_static zh_X9_matches_17 (Nat.le_of_ble_eq_true rfl) rfl rfl).trans (if_pos (Nat.le_of_ble_eq_true rfl))))
theorem ze_X9_matches_20 {d : Nat} {f : zF} {m : zM} {a0 a1 a2 : Value} {y0 y1 : Nat} {y2 : Int64} : zex zTb d zqX9_matches 20 [a0, a1, a2] [.long y2, .ref y1, .ref y0] f m = if zisc (f y0) 7 = true then zcal zTb (zrun zTb d 65 [.ref y0, .ref y1, .long y2] f m) d zqX9_matches 20 23 [a0, a1, a2] [] else none := (zx_virtual4 zh_X9_matches_20 (Nat.le_of_ble_eq_true rfl) rfl rfl (Nat.le_of_ble_eq_true rfl))
theorem ze_X9_matches_23 {d : Nat} {f : zF} {m : zM} {a0 a1 a2 : Value} {y0 : Int32} : zex zTb d zqX9_matches 23 [a0, a1, a2] [.int y0] f m = if (y0 = 0 ∨ y0 = 1) then some (.inl (some (.int y0)), f, m) else none := (zx_bret zh_X9_matches_23 rfl)
-- X9_count
theorem zh_X9_count_0 : zfe zqX9_count.i 0 = some (0, .aload_n 0, 1, 0, 0, 0) := rfl
theorem zh_X9_count_1 : zfe zqX9_count.i 1 = some (1, .invokevirtual 156, 3, 99, 1, 8) := rfl
theorem zh_X9_count_4 : zfe zqX9_count.i 4 = some (4, .iload_n 1, 1, 0, 0, 0) := rfl
theorem zh_X9_count_5 : zfe zqX9_count.i 5 = some (5, .ifCond .lt 9, 3, 0, 0, 0) := rfl
theorem zh_X9_count_8 : zfe zqX9_count.i 8 = some (8, .iload_n 1, 1, 0, 0, 0) := rfl
theorem zh_X9_count_9 : zfe zqX9_count.i 9 = some (9, .bipush 6, 2, 0, 0, 0) := rfl
theorem zh_X9_count_11 : zfe zqX9_count.i 11 = some (11, .if_icmp .le 13, 3, 0, 0, 0) := rfl
theorem zh_X9_count_14 : zfe zqX9_count.i 14 = some (14, .new 58, 3, 0, 190, 62) := rfl
theorem zh_X9_count_24 : zfe zqX9_count.i 24 = some (24, .iconst 0, 1, 0, 0, 0) := rfl
theorem zh_X9_count_25 : zfe zqX9_count.i 25 = some (25, .istore_n 2, 1, 0, 0, 0) := rfl
theorem zh_X9_count_26 : zfe zqX9_count.i 26 = some (26, .iload_n 1, 1, 0, 0, 0) := rfl
theorem zh_X9_count_27 : zfe zqX9_count.i 27 = some (27, .invokestatic 191, 3, 75, 1, 0) := rfl
theorem zh_X9_count_30 : zfe zqX9_count.i 30 = some (30, .istore_n 3, 1, 0, 0, 0) := rfl
theorem zh_X9_count_31 : zfe zqX9_count.i 31 = some (31, .iload_n 3, 1, 0, 0, 0) := rfl
theorem zh_X9_count_32 : zfe zqX9_count.i 32 = some (32, .iload_n 1, 1, 0, 0, 0) := rfl
theorem zh_X9_count_33 : zfe zqX9_count.i 33 = some (33, .iconst 1, 1, 0, 0, 0) := rfl
theorem zh_X9_count_34 : zfe zqX9_count.i 34 = some (34, .iadd, 1, 0, 0, 0) := rfl
theorem zh_X9_count_35 : zfe zqX9_count.i 35 = some (35, .invokestatic 191, 3, 75, 1, 0) := rfl
theorem zh_X9_count_38 : zfe zqX9_count.i 38 = some (38, .if_icmp .ge 30, 3, 0, 0, 0) := rfl
theorem zh_X9_count_41 : zfe zqX9_count.i 41 = some (41, .aload_n 0, 1, 0, 0, 0) := rfl
theorem zh_X9_count_42 : zfe zqX9_count.i 42 = some (42, .getfield 30, 3, 8, 3, 0) := rfl
theorem zh_X9_count_45 : zfe zqX9_count.i 45 = some (45, .aload_n 0, 1, 0, 0, 0) := rfl
theorem zh_X9_count_46 : zfe zqX9_count.i 46 = some (46, .getfield 37, 3, 8, 5, 0) := rfl
theorem zh_X9_count_49 : zfe zqX9_count.i 49 = some (49, .iload_n 3, 1, 0, 0, 0) := rfl
theorem zh_X9_count_50 : zfe zqX9_count.i 50 = some (50, .invokestatic 194, 3, 76, 1, 0) := rfl
theorem zh_X9_count_53 : zfe zqX9_count.i 53 = some (53, .invokevirtual 185, 3, 65, 3, 7) := rfl
theorem zh_X9_count_56 : zfe zqX9_count.i 56 = some (56, .ifCond .eq 6, 3, 0, 0, 0) := rfl
theorem zh_X9_count_59 : zfe zqX9_count.i 59 = some (59, .iinc 2 1, 3, 0, 0, 0) := rfl
theorem zh_X9_count_62 : zfe zqX9_count.i 62 = some (62, .iinc 3 1, 3, 0, 0, 0) := rfl
theorem zh_X9_count_65 : zfe zqX9_count.i 65 = some (65, .goto (-34), 3, 0, 0, 0) := rfl
theorem zh_X9_count_68 : zfe zqX9_count.i 68 = some (68, .iload_n 2, 1, 0, 0, 0) := rfl
theorem zh_X9_count_69 : zfe zqX9_count.i 69 = some (69, .ireturn, 1, 0, 0, 0) := rfl
theorem ze_X9_count_0 {d : Nat} {f : zF} {m : zM} {x0 : Nat} {a1 a2 a3 : Value} : zex zTb d zqX9_count 0 [.ref x0, a1, a2, a3] [] f m = if zisc (f x0) 8 = true then zcal zTb (zrun zTb d 99 [.ref x0] f m) d zqX9_count 1 4 [.ref x0, a1, a2, a3] [] else none := (zxl_go (x := (1, [.ref x0, a1, a2, a3], [.ref x0], f, m)) zh_X9_count_0 rfl).trans ((zx_virtual4 zh_X9_count_1 (Nat.le_of_ble_eq_true rfl) rfl rfl (Nat.le_of_ble_eq_true rfl)))
theorem ze_X9_count_4 {d : Nat} {f : zF} {m : zM} {a0 a2 a3 : Value} {x1 : Int32} : zex zTb d zqX9_count 4 [a0, .int x1, a2, a3] [] f m = if zc1 .lt x1 = true then zex zTb d zqX9_count 14 [a0, .int x1, a2, a3] [] f m else zex zTb d zqX9_count 8 [a0, .int x1, a2, a3] [] f m := (zxl_go (x := (5, [a0, .int x1, a2, a3], [.int x1], f, m)) zh_X9_count_4 rfl).trans ((zx_if (tgt := 14) zh_X9_count_5 rfl))
theorem ze_X9_count_8 {d : Nat} {f : zF} {m : zM} {a0 a2 a3 : Value} {x1 : Int32} : zex zTb d zqX9_count 8 [a0, .int x1, a2, a3] [] f m = if zc2 .le x1 (I 6) = true then zex zTb d zqX9_count 24 [a0, .int x1, a2, a3] [] f m else zex zTb d zqX9_count 14 [a0, .int x1, a2, a3] [] f m := (zxl_go (x := (9, [a0, .int x1, a2, a3], [.int x1], f, m)) zh_X9_count_8 rfl).trans ((zx_bipush zh_X9_count_9 (by decide)).trans ((zx_icmp (tgt := 24) zh_X9_count_11 rfl)))
theorem ze_X9_count_14 {d : Nat} {f : zF} {m : zM} {a0 a1 a2 a3 : Value} : zex zTb d zqX9_count 14 [a0, a1, a2, a3] [] f m = some (.inr 0, f, (none, m.2.1 + 1, m.2.2 + 6)) := (zx_throw zh_X9_count_14 (Nat.le_of_ble_eq_true rfl))
theorem ze_X9_count_24 {d : Nat} {f : zF} {m : zM} {a0 a2 a3 : Value} {x1 : Int32} : zex zTb d zqX9_count 24 [a0, .int x1, a2, a3] [] f m = zcal zTb (zrun zTb d 75 [.int x1] f m) d zqX9_count 27 30 [a0, .int x1, .int (I 0), a3] [] := (zx_iconst zh_X9_count_24).trans ((zxl_go (x := (26, [a0, .int x1, .int (I 0), a3], [], f, m)) zh_X9_count_25 rfl).trans ((zxl_go (x := (27, [a0, .int x1, .int (I 0), a3], [.int x1], f, m)) zh_X9_count_26 rfl).trans (((zx_static zh_X9_count_27 (Nat.le_of_ble_eq_true rfl) rfl rfl).trans (if_pos (Nat.le_of_ble_eq_true rfl))))))
theorem ze_X9_count_30 {d : Nat} {f : zF} {m : zM} {a0 a1 a2 a3 : Value} {y0 : Int32} : zex zTb d zqX9_count 30 [a0, a1, a2, a3] [.int y0] f m = zex zTb d zqX9_count 31 [a0, a1, (zclr a2), .int y0] [] f m := (zxl_go (x := (31, [a0, a1, (zclr a2), .int y0], [], f, m)) zh_X9_count_30 rfl)
theorem ze_X9_count_31 {d : Nat} {f : zF} {m : zM} {a0 a2 : Value} {x1 x3 : Int32} : zex zTb d zqX9_count 31 [a0, .int x1, a2, .int x3] [] f m = zcal zTb (zrun zTb d 75 [.int (x1 + (I 1))] f m) d zqX9_count 35 38 [a0, .int x1, a2, .int x3] [.int x3] := (zxl_go (x := (32, [a0, .int x1, a2, .int x3], [.int x3], f, m)) zh_X9_count_31 rfl).trans ((zxl_go (x := (33, [a0, .int x1, a2, .int x3], [.int x1, .int x3], f, m)) zh_X9_count_32 rfl).trans ((zx_iconst zh_X9_count_33).trans ((zxl_go (x := (35, [a0, .int x1, a2, .int x3], [.int (x1 + (I 1)), .int x3], f, m)) zh_X9_count_34 rfl).trans (((zx_static zh_X9_count_35 (Nat.le_of_ble_eq_true rfl) rfl rfl).trans (if_pos (Nat.le_of_ble_eq_true rfl)))))))
theorem ze_X9_count_38 {d : Nat} {f : zF} {m : zM} {a0 a1 a2 a3 : Value} {y0 y1 : Int32} : zex zTb d zqX9_count 38 [a0, a1, a2, a3] [.int y1, .int y0] f m = if zc2 .ge y0 y1 = true then zex zTb d zqX9_count 68 [a0, a1, a2, a3] [] f m else zex zTb d zqX9_count 41 [a0, a1, a2, a3] [] f m := (zx_icmp (tgt := 68) zh_X9_count_38 rfl)
theorem ze_X9_count_41 {d : Nat} {f : zF} {m : zM} {x0 : Nat} {a1 a2 a3 : Value} : zex zTb d zqX9_count 41 [.ref x0, a1, a2, a3] [] f m = if zco (f x0) 8 3 = true then zex zTb d zqX9_count 45 [.ref x0, a1, a2, a3] [zcf (f x0) 3] f m else none := (zxl_go (x := (42, [.ref x0, a1, a2, a3], [.ref x0], f, m)) zh_X9_count_41 rfl).trans ((zx_getfield zh_X9_count_42))
theorem ze_X9_count_45 {d : Nat} {f : zF} {m : zM} {x0 y0 : Nat} {a1 a2 a3 : Value} : zex zTb d zqX9_count 45 [.ref x0, a1, a2, a3] [.ref y0] f m = if zco (f x0) 8 5 = true then zex zTb d zqX9_count 49 [.ref x0, a1, a2, a3] [zcf (f x0) 5, .ref y0] f m else none := (zxl_go (x := (46, [.ref x0, a1, a2, a3], [.ref x0, .ref y0], f, m)) zh_X9_count_45 rfl).trans ((zx_getfield zh_X9_count_46))
theorem ze_X9_count_49 {d : Nat} {f : zF} {m : zM} {a0 a1 a2 : Value} {x3 : Int32} {y0 y1 : Nat} : zex zTb d zqX9_count 49 [a0, a1, a2, .int x3] [.ref y1, .ref y0] f m = zcal zTb (zrun zTb d 76 [.int x3] f m) d zqX9_count 50 53 [a0, a1, a2, .int x3] [.ref y1, .ref y0] := (zxl_go (x := (50, [a0, a1, a2, .int x3], [.int x3, .ref y1, .ref y0], f, m)) zh_X9_count_49 rfl).trans (((zx_static zh_X9_count_50 (Nat.le_of_ble_eq_true rfl) rfl rfl).trans (if_pos (Nat.le_of_ble_eq_true rfl))))
theorem ze_X9_count_53 {d : Nat} {f : zF} {m : zM} {a0 a1 a2 a3 : Value} {y0 y1 : Nat} {y2 : Int64} : zex zTb d zqX9_count 53 [a0, a1, a2, a3] [.long y2, .ref y1, .ref y0] f m = if zisc (f y0) 7 = true then zcal zTb (zrun zTb d 65 [.ref y0, .ref y1, .long y2] f m) d zqX9_count 53 56 [a0, a1, a2, a3] [] else none := (zx_virtual4 zh_X9_count_53 (Nat.le_of_ble_eq_true rfl) rfl rfl (Nat.le_of_ble_eq_true rfl))
theorem ze_X9_count_56 {d : Nat} {f : zF} {m : zM} {a0 a1 a2 a3 : Value} {y0 : Int32} : zex zTb d zqX9_count 56 [a0, a1, a2, a3] [.int y0] f m = if zc1 .eq y0 = true then zex zTb d zqX9_count 62 [a0, a1, a2, a3] [] f m else zex zTb d zqX9_count 59 [a0, a1, a2, a3] [] f m := (zx_if (tgt := 62) zh_X9_count_56 rfl)
theorem ze_X9_count_59 {d : Nat} {f : zF} {m : zM} {a0 a1 : Value} {x2 x3 : Int32} : zex zTb d zqX9_count 59 [a0, a1, .int x2, .int x3] [] f m = zex zTb d zqX9_count 31 [a0, (zclr a1), .int (x2 + I 1), .int (x3 + I 1)] [] f m := (zxl_go (x := (62, [a0, (zclr a1), .int (x2 + I 1), .int x3], [], f, m)) zh_X9_count_59 rfl).trans ((zxl_go (x := (65, [a0, (zclr a1), .int (x2 + I 1), .int (x3 + I 1)], [], f, m)) zh_X9_count_62 rfl).trans ((zx_goto zh_X9_count_65 rfl)))
theorem ze_X9_count_62 {d : Nat} {f : zF} {m : zM} {a0 a1 a2 : Value} {x3 : Int32} : zex zTb d zqX9_count 62 [a0, a1, a2, .int x3] [] f m = zex zTb d zqX9_count 31 [a0, a1, (zclr a2), .int (x3 + I 1)] [] f m := (zxl_go (x := (65, [a0, a1, (zclr a2), .int (x3 + I 1)], [], f, m)) zh_X9_count_62 rfl).trans ((zx_goto zh_X9_count_65 rfl))
theorem ze_X9_count_68 {d : Nat} {f : zF} {m : zM} {a0 a1 a3 : Value} {x2 : Int32} : zex zTb d zqX9_count 68 [a0, a1, .int x2, a3] [] f m = some (.inl (some (.int x2)), f, m) := (zxl_go (x := (69, [a0, a1, .int x2, a3], [.int x2], f, m)) zh_X9_count_68 rfl).trans ((zx_iret zh_X9_count_69 (by first | rfl | decide)))
-- X9_first
theorem zh_X9_first_0 : zfe zqX9_first.i 0 = some (0, .aload_n 0, 1, 0, 0, 0) := rfl
theorem zh_X9_first_1 : zfe zqX9_first.i 1 = some (1, .invokevirtual 156, 3, 99, 1, 8) := rfl
theorem zh_X9_first_4 : zfe zqX9_first.i 4 = some (4, .iconst 0, 1, 0, 0, 0) := rfl
theorem zh_X9_first_5 : zfe zqX9_first.i 5 = some (5, .istore_n 1, 1, 0, 0, 0) := rfl
theorem zh_X9_first_6 : zfe zqX9_first.i 6 = some (6, .iload_n 1, 1, 0, 0, 0) := rfl
theorem zh_X9_first_7 : zfe zqX9_first.i 7 = some (7, .bipush 7, 2, 0, 0, 0) := rfl
theorem zh_X9_first_9 : zfe zqX9_first.i 9 = some (9, .invokestatic 191, 3, 75, 1, 0) := rfl
theorem zh_X9_first_12 : zfe zqX9_first.i 12 = some (12, .if_icmp .ge 31, 3, 0, 0, 0) := rfl
theorem zh_X9_first_15 : zfe zqX9_first.i 15 = some (15, .iload_n 1, 1, 0, 0, 0) := rfl
theorem zh_X9_first_16 : zfe zqX9_first.i 16 = some (16, .invokestatic 194, 3, 76, 1, 0) := rfl
theorem zh_X9_first_19 : zfe zqX9_first.i 19 = some (19, .lstore_n 2, 1, 0, 0, 0) := rfl
theorem zh_X9_first_20 : zfe zqX9_first.i 20 = some (20, .aload_n 0, 1, 0, 0, 0) := rfl
theorem zh_X9_first_21 : zfe zqX9_first.i 21 = some (21, .getfield 30, 3, 8, 3, 0) := rfl
theorem zh_X9_first_24 : zfe zqX9_first.i 24 = some (24, .aload_n 0, 1, 0, 0, 0) := rfl
theorem zh_X9_first_25 : zfe zqX9_first.i 25 = some (25, .getfield 37, 3, 8, 5, 0) := rfl
theorem zh_X9_first_28 : zfe zqX9_first.i 28 = some (28, .lload_n 2, 1, 0, 0, 0) := rfl
theorem zh_X9_first_29 : zfe zqX9_first.i 29 = some (29, .invokevirtual 185, 3, 65, 3, 7) := rfl
theorem zh_X9_first_32 : zfe zqX9_first.i 32 = some (32, .ifCond .eq 5, 3, 0, 0, 0) := rfl
theorem zh_X9_first_35 : zfe zqX9_first.i 35 = some (35, .lload_n 2, 1, 0, 0, 0) := rfl
theorem zh_X9_first_36 : zfe zqX9_first.i 36 = some (36, .lreturn, 1, 0, 0, 0) := rfl
theorem zh_X9_first_37 : zfe zqX9_first.i 37 = some (37, .iinc 1 1, 3, 0, 0, 0) := rfl
theorem zh_X9_first_40 : zfe zqX9_first.i 40 = some (40, .goto (-34), 3, 0, 0, 0) := rfl
theorem zh_X9_first_43 : zfe zqX9_first.i 43 = some (43, .ldc2_w 198, 3, 18446744073709551615, 0, 0) := rfl
theorem zh_X9_first_46 : zfe zqX9_first.i 46 = some (46, .lreturn, 1, 0, 0, 0) := rfl
theorem ze_X9_first_0 {d : Nat} {f : zF} {m : zM} {x0 : Nat} {a1 a2 a3 : Value} : zex zTb d zqX9_first 0 [.ref x0, a1, a2, a3] [] f m = if zisc (f x0) 8 = true then zcal zTb (zrun zTb d 99 [.ref x0] f m) d zqX9_first 1 4 [.ref x0, a1, a2, a3] [] else none := (zxl_go (x := (1, [.ref x0, a1, a2, a3], [.ref x0], f, m)) zh_X9_first_0 rfl).trans ((zx_virtual4 zh_X9_first_1 (Nat.le_of_ble_eq_true rfl) rfl rfl (Nat.le_of_ble_eq_true rfl)))
theorem ze_X9_first_4 {d : Nat} {f : zF} {m : zM} {a0 a1 a2 a3 : Value} : zex zTb d zqX9_first 4 [a0, a1, a2, a3] [] f m = zex zTb d zqX9_first 6 [(zclr a0), .int (I 0), a2, a3] [] f m := (zx_iconst zh_X9_first_4).trans ((zxl_go (x := (6, [(zclr a0), .int (I 0), a2, a3], [], f, m)) zh_X9_first_5 rfl))
theorem ze_X9_first_6 {d : Nat} {f : zF} {m : zM} {a0 a2 a3 : Value} {x1 : Int32} : zex zTb d zqX9_first 6 [a0, .int x1, a2, a3] [] f m = zcal zTb (zrun zTb d 75 [.int (I 7)] f m) d zqX9_first 9 12 [a0, .int x1, a2, a3] [.int x1] := (zxl_go (x := (7, [a0, .int x1, a2, a3], [.int x1], f, m)) zh_X9_first_6 rfl).trans ((zx_bipush zh_X9_first_7 (by decide)).trans (((zx_static zh_X9_first_9 (Nat.le_of_ble_eq_true rfl) rfl rfl).trans (if_pos (Nat.le_of_ble_eq_true rfl)))))
theorem ze_X9_first_12 {d : Nat} {f : zF} {m : zM} {a0 a1 a2 a3 : Value} {y0 y1 : Int32} : zex zTb d zqX9_first 12 [a0, a1, a2, a3] [.int y1, .int y0] f m = if zc2 .ge y0 y1 = true then zex zTb d zqX9_first 43 [a0, a1, a2, a3] [] f m else zex zTb d zqX9_first 15 [a0, a1, a2, a3] [] f m := (zx_icmp (tgt := 43) zh_X9_first_12 rfl)
theorem ze_X9_first_15 {d : Nat} {f : zF} {m : zM} {a0 a2 a3 : Value} {x1 : Int32} : zex zTb d zqX9_first 15 [a0, .int x1, a2, a3] [] f m = zcal zTb (zrun zTb d 76 [.int x1] f m) d zqX9_first 16 19 [a0, .int x1, a2, a3] [] := (zxl_go (x := (16, [a0, .int x1, a2, a3], [.int x1], f, m)) zh_X9_first_15 rfl).trans (((zx_static zh_X9_first_16 (Nat.le_of_ble_eq_true rfl) rfl rfl).trans (if_pos (Nat.le_of_ble_eq_true rfl))))
theorem ze_X9_first_19 {d : Nat} {f : zF} {m : zM} {x0 : Nat} {a1 a2 a3 : Value} {y0 : Int64} : zex zTb d zqX9_first 19 [.ref x0, a1, a2, a3] [.long y0] f m = if zco (f x0) 8 3 = true then zex zTb d zqX9_first 24 [.ref x0, (zclr a1), .long y0, .null] [zcf (f x0) 3] f m else none := (zxl_go (x := (20, [.ref x0, (zclr a1), .long y0, .null], [], f, m)) zh_X9_first_19 rfl).trans ((zxl_go (x := (21, [.ref x0, (zclr a1), .long y0, .null], [.ref x0], f, m)) zh_X9_first_20 rfl).trans ((zx_getfield zh_X9_first_21)))
theorem ze_X9_first_24 {d : Nat} {f : zF} {m : zM} {x0 y0 : Nat} {a1 a2 a3 : Value} : zex zTb d zqX9_first 24 [.ref x0, a1, a2, a3] [.ref y0] f m = if zco (f x0) 8 5 = true then zex zTb d zqX9_first 28 [.ref x0, a1, a2, a3] [zcf (f x0) 5, .ref y0] f m else none := (zxl_go (x := (25, [.ref x0, a1, a2, a3], [.ref x0, .ref y0], f, m)) zh_X9_first_24 rfl).trans ((zx_getfield zh_X9_first_25))
theorem ze_X9_first_28 {d : Nat} {f : zF} {m : zM} {a0 a1 a3 : Value} {x2 : Int64} {y0 y1 : Nat} : zex zTb d zqX9_first 28 [a0, a1, .long x2, a3] [.ref y1, .ref y0] f m = if zisc (f y0) 7 = true then zcal zTb (zrun zTb d 65 [.ref y0, .ref y1, .long x2] f m) d zqX9_first 29 32 [a0, a1, .long x2, a3] [] else none := (zxl_go (x := (29, [a0, a1, .long x2, a3], [.long x2, .ref y1, .ref y0], f, m)) zh_X9_first_28 rfl).trans ((zx_virtual4 zh_X9_first_29 (Nat.le_of_ble_eq_true rfl) rfl rfl (Nat.le_of_ble_eq_true rfl)))
theorem ze_X9_first_32 {d : Nat} {f : zF} {m : zM} {a0 a1 a2 a3 : Value} {y0 : Int32} : zex zTb d zqX9_first 32 [a0, a1, a2, a3] [.int y0] f m = if zc1 .eq y0 = true then zex zTb d zqX9_first 37 [a0, a1, a2, a3] [] f m else zex zTb d zqX9_first 35 [a0, a1, a2, a3] [] f m := (zx_if (tgt := 37) zh_X9_first_32 rfl)
theorem ze_X9_first_35 {d : Nat} {f : zF} {m : zM} {a0 a1 a3 : Value} {x2 : Int64} : zex zTb d zqX9_first 35 [a0, a1, .long x2, a3] [] f m = some (.inl (some (.long x2)), f, m) := (zxl_go (x := (36, [a0, a1, .long x2, a3], [.long x2], f, m)) zh_X9_first_35 rfl).trans ((zx_lret zh_X9_first_36 rfl))
theorem ze_X9_first_37 {d : Nat} {f : zF} {m : zM} {a0 a2 a3 : Value} {x1 : Int32} : zex zTb d zqX9_first 37 [a0, .int x1, a2, a3] [] f m = zex zTb d zqX9_first 6 [(zclr a0), .int (x1 + I 1), a2, a3] [] f m := (zxl_go (x := (40, [(zclr a0), .int (x1 + I 1), a2, a3], [], f, m)) zh_X9_first_37 rfl).trans ((zx_goto zh_X9_first_40 rfl))
theorem ze_X9_first_43 {d : Nat} {f : zF} {m : zM} {a0 a1 a2 a3 : Value} : zex zTb d zqX9_first 43 [a0, a1, a2, a3] [] f m = some (.inl (some (.long (J 18446744073709551615))), f, m) := (zx_ldc2 (v := 18446744073709551615) zh_X9_first_43 (by decide)).trans ((zx_lret zh_X9_first_46 rfl))
-- X9_share
theorem zh_X9_share_0 : zfe zqX9_share.i 0 = some (0, .aload_n 0, 1, 0, 0, 0) := rfl
theorem zh_X9_share_1 : zfe zqX9_share.i 1 = some (1, .invokevirtual 156, 3, 99, 1, 8) := rfl
theorem zh_X9_share_4 : zfe zqX9_share.i 4 = some (4, .aload_n 0, 1, 0, 0, 0) := rfl
theorem zh_X9_share_5 : zfe zqX9_share.i 5 = some (5, .getfield 10, 3, 8, 0, 0) := rfl
theorem zh_X9_share_8 : zfe zqX9_share.i 8 = some (8, .getfield 112, 3, 1, 3, 0) := rfl
theorem zh_X9_share_11 : zfe zqX9_share.i 11 = some (11, .getfield 116, 3, 3, 1, 0) := rfl
theorem zh_X9_share_14 : zfe zqX9_share.i 14 = some (14, .istore_n 1, 1, 0, 0, 0) := rfl
theorem zh_X9_share_15 : zfe zqX9_share.i 15 = some (15, .iload_n 1, 1, 0, 0, 0) := rfl
theorem zh_X9_share_16 : zfe zqX9_share.i 16 = some (16, .ifCond .le 14, 3, 0, 0, 0) := rfl
theorem zh_X9_share_19 : zfe zqX9_share.i 19 = some (19, .aload_n 0, 1, 0, 0, 0) := rfl
theorem zh_X9_share_20 : zfe zqX9_share.i 20 = some (20, .getfield 152, 3, 8, 7, 0) := rfl
theorem zh_X9_share_23 : zfe zqX9_share.i 23 = some (23, .i2d, 1, 0, 0, 0) := rfl
theorem zh_X9_share_24 : zfe zqX9_share.i 24 = some (24, .iload_n 1, 1, 0, 0, 0) := rfl
theorem zh_X9_share_25 : zfe zqX9_share.i 25 = some (25, .i2d, 1, 0, 0, 0) := rfl
theorem zh_X9_share_26 : zfe zqX9_share.i 26 = some (26, .ddiv, 1, 0, 0, 0) := rfl
theorem zh_X9_share_27 : zfe zqX9_share.i 27 = some (27, .goto 4, 3, 0, 0, 0) := rfl
theorem zh_X9_share_30 : zfe zqX9_share.i 30 = some (30, .dconst 0, 1, 0, 0, 0) := rfl
theorem zh_X9_share_31 : zfe zqX9_share.i 31 = some (31, .dreturn, 1, 0, 0, 0) := rfl
theorem ze_X9_share_0 {d : Nat} {f : zF} {m : zM} {x0 : Nat} {a1 : Value} : zex zTb d zqX9_share 0 [.ref x0, a1] [] f m = if zisc (f x0) 8 = true then zcal zTb (zrun zTb d 99 [.ref x0] f m) d zqX9_share 1 4 [.ref x0, a1] [] else none := (zxl_go (x := (1, [.ref x0, a1], [.ref x0], f, m)) zh_X9_share_0 rfl).trans ((zx_virtual4 zh_X9_share_1 (Nat.le_of_ble_eq_true rfl) rfl rfl (Nat.le_of_ble_eq_true rfl)))
theorem ze_X9_share_4 {d : Nat} {f : zF} {m : zM} {x0 : Nat} {a1 : Value} : zex zTb d zqX9_share 4 [.ref x0, a1] [] f m = if zco (f x0) 8 0 = true then zex zTb d zqX9_share 8 [.ref x0, a1] [zcf (f x0) 0] f m else none := (zxl_go (x := (5, [.ref x0, a1], [.ref x0], f, m)) zh_X9_share_4 rfl).trans ((zx_getfield zh_X9_share_5))
theorem ze_X9_share_8 {d : Nat} {f : zF} {m : zM} {a0 a1 : Value} {y0 : Nat} : zex zTb d zqX9_share 8 [a0, a1] [.ref y0] f m = if zco (f y0) 1 3 = true then zex zTb d zqX9_share 11 [a0, a1] [zcf (f y0) 3] f m else none := (zx_getfield zh_X9_share_8)
theorem ze_X9_share_11 {d : Nat} {f : zF} {m : zM} {a0 a1 : Value} {y0 : Nat} : zex zTb d zqX9_share 11 [a0, a1] [.ref y0] f m = if zco (f y0) 3 1 = true then zex zTb d zqX9_share 14 [a0, a1] [zcf (f y0) 1] f m else none := (zx_getfield zh_X9_share_11)
theorem ze_X9_share_14 {d : Nat} {f : zF} {m : zM} {a0 a1 : Value} {y0 : Int32} : zex zTb d zqX9_share 14 [a0, a1] [.int y0] f m = if zc1 .le y0 = true then zex zTb d zqX9_share 30 [(zclr a0), .int y0] [] f m else zex zTb d zqX9_share 19 [(zclr a0), .int y0] [] f m := (zxl_go (x := (15, [(zclr a0), .int y0], [], f, m)) zh_X9_share_14 rfl).trans ((zxl_go (x := (16, [(zclr a0), .int y0], [.int y0], f, m)) zh_X9_share_15 rfl).trans ((zx_if (tgt := 30) zh_X9_share_16 rfl)))
theorem ze_X9_share_19 {d : Nat} {f : zF} {m : zM} {x0 : Nat} {a1 : Value} : zex zTb d zqX9_share 19 [.ref x0, a1] [] f m = if zco (f x0) 8 7 = true then zex zTb d zqX9_share 23 [.ref x0, a1] [zcf (f x0) 7] f m else none := (zxl_go (x := (20, [.ref x0, a1], [.ref x0], f, m)) zh_X9_share_19 rfl).trans ((zx_getfield zh_X9_share_20))
theorem ze_X9_share_23 {d : Nat} {f : zF} {m : zM} {a0 : Value} {x1 y0 : Int32} : zex zTb d zqX9_share 23 [a0, .int x1] [.int y0] f m = if FP.ddiv (FP.i2d y0) (FP.i2d x1) &&& 0x7fffffffffffffff ≤ 0x7ff0000000000000 then zex zTb d zqX9_share 27 [a0, .int x1] [.double (FP.ddiv (FP.i2d y0) (FP.i2d x1))] f m else none := (zxl_go (x := (24, [a0, .int x1], [.double (FP.i2d y0)], f, m)) zh_X9_share_23 rfl).trans ((zxl_go (x := (25, [a0, .int x1], [.int x1, .double (FP.i2d y0)], f, m)) zh_X9_share_24 rfl).trans ((zxl_go (x := (26, [a0, .int x1], [.double (FP.i2d x1), .double (FP.i2d y0)], f, m)) zh_X9_share_25 rfl).trans ((zx_ddiv zh_X9_share_26))))
theorem ze_X9_share_27 {d : Nat} {f : zF} {m : zM} {a0 a1 : Value} {y0 : UInt64} : zex zTb d zqX9_share 27 [a0, a1] [.double y0] f m = some (.inl (some (.double y0)), f, m) := (zx_goto zh_X9_share_27 rfl).trans ((zx_dret zh_X9_share_31 rfl))
theorem ze_X9_share_30 {d : Nat} {f : zF} {m : zM} {a0 a1 : Value} : zex zTb d zqX9_share 30 [a0, a1] [] f m = some (.inl (some (.double (FP.dconst0))), f, m) := (zxl_go (x := (31, [a0, a1], [.double (FP.dconst0)], f, m)) zh_X9_share_30 rfl).trans ((zx_dret zh_X9_share_31 rfl))
-- X9_needFound
theorem zh_X9_needFound_0 : zfe zqX9_needFound.i 0 = some (0, .aload_n 0, 1, 0, 0, 0) := rfl
theorem zh_X9_needFound_1 : zfe zqX9_needFound.i 1 = some (1, .getfield 78, 3, 8, 4, 0) := rfl
theorem zh_X9_needFound_4 : zfe zqX9_needFound.i 4 = some (4, .ifCond .ne 13, 3, 0, 0, 0) := rfl
theorem zh_X9_needFound_7 : zfe zqX9_needFound.i 7 = some (7, .new 73, 3, 1, 201, 77) := rfl
theorem zh_X9_needFound_17 : zfe zqX9_needFound.i 17 = some (17, .return_, 1, 0, 0, 0) := rfl
theorem ze_X9_needFound_0 {d : Nat} {f : zF} {m : zM} {x0 : Nat} : zex zTb d zqX9_needFound 0 [.ref x0] [] f m = if zco (f x0) 8 4 = true then zex zTb d zqX9_needFound 4 [.ref x0] [zcf (f x0) 4] f m else none := (zxl_go (x := (1, [.ref x0], [.ref x0], f, m)) zh_X9_needFound_0 rfl).trans ((zx_getfield zh_X9_needFound_1))
theorem ze_X9_needFound_4 {d : Nat} {f : zF} {m : zM} {a0 : Value} {y0 : Int32} : zex zTb d zqX9_needFound 4 [a0] [.int y0] f m = if zc1 .ne y0 = true then zex zTb d zqX9_needFound 17 [a0] [] f m else zex zTb d zqX9_needFound 7 [a0] [] f m := (zx_if (tgt := 17) zh_X9_needFound_4 rfl)
theorem ze_X9_needFound_7 {d : Nat} {f : zF} {m : zM} {a0 : Value} : zex zTb d zqX9_needFound 7 [a0] [] f m = some (.inr 1, f, (none, m.2.1 + 1, m.2.2 + 6)) := (zx_throw zh_X9_needFound_7 (Nat.le_of_ble_eq_true rfl))
theorem ze_X9_needFound_17 {d : Nat} {f : zF} {m : zM} {a0 : Value} : zex zTb d zqX9_needFound 17 [a0] [] f m = some (.inl none, f, m) := (zx_ret zh_X9_needFound_17 rfl)
-- X9_needNode
theorem zh_X9_needNode_0 : zfe zqX9_needNode.i 0 = some (0, .aload_n 0, 1, 0, 0, 0) := rfl
theorem zh_X9_needNode_1 : zfe zqX9_needNode.i 1 = some (1, .getfield 37, 3, 8, 5, 0) := rfl
theorem zh_X9_needNode_4 : zfe zqX9_needNode.i 4 = some (4, .iload_n 1, 1, 0, 0, 0) := rfl
theorem zh_X9_needNode_5 : zfe zqX9_needNode.i 5 = some (5, .invokevirtual 202, 3, 11, 2, 2) := rfl
theorem zh_X9_needNode_8 : zfe zqX9_needNode.i 8 = some (8, .ifCond .ne 13, 3, 0, 0, 0) := rfl
theorem zh_X9_needNode_11 : zfe zqX9_needNode.i 11 = some (11, .new 90, 3, 2, 204, 94) := rfl
theorem zh_X9_needNode_21 : zfe zqX9_needNode.i 21 = some (21, .return_, 1, 0, 0, 0) := rfl
theorem ze_X9_needNode_0 {d : Nat} {f : zF} {m : zM} {x0 : Nat} {a1 : Value} : zex zTb d zqX9_needNode 0 [.ref x0, a1] [] f m = if zco (f x0) 8 5 = true then zex zTb d zqX9_needNode 4 [.ref x0, a1] [zcf (f x0) 5] f m else none := (zxl_go (x := (1, [.ref x0, a1], [.ref x0], f, m)) zh_X9_needNode_0 rfl).trans ((zx_getfield zh_X9_needNode_1))
theorem ze_X9_needNode_4 {d : Nat} {f : zF} {m : zM} {a0 : Value} {x1 : Int32} {y0 : Nat} : zex zTb d zqX9_needNode 4 [a0, .int x1] [.ref y0] f m = if zisc (f y0) 2 = true then zcal zTb (zrun zTb d 11 [.ref y0, .int x1] f m) d zqX9_needNode 5 8 [a0, .int x1] [] else none := (zxl_go (x := (5, [a0, .int x1], [.int x1, .ref y0], f, m)) zh_X9_needNode_4 rfl).trans ((zx_virtual4 zh_X9_needNode_5 (Nat.le_of_ble_eq_true rfl) rfl rfl (Nat.le_of_ble_eq_true rfl)))
theorem ze_X9_needNode_8 {d : Nat} {f : zF} {m : zM} {a0 a1 : Value} {y0 : Int32} : zex zTb d zqX9_needNode 8 [a0, a1] [.int y0] f m = if zc1 .ne y0 = true then zex zTb d zqX9_needNode 21 [a0, a1] [] f m else zex zTb d zqX9_needNode 11 [a0, a1] [] f m := (zx_if (tgt := 21) zh_X9_needNode_8 rfl)
theorem ze_X9_needNode_11 {d : Nat} {f : zF} {m : zM} {a0 a1 : Value} : zex zTb d zqX9_needNode 11 [a0, a1] [] f m = some (.inr 2, f, (none, m.2.1 + 1, m.2.2 + 6)) := (zx_throw zh_X9_needNode_11 (Nat.le_of_ble_eq_true rfl))
theorem ze_X9_needNode_21 {d : Nat} {f : zF} {m : zM} {a0 a1 : Value} : zex zTb d zqX9_needNode 21 [a0, a1] [] f m = some (.inl none, f, m) := (zx_ret zh_X9_needNode_21 rfl)
-- X9_needWord
theorem zh_X9_needWord_0 : zfe zqX9_needWord.i 0 = some (0, .lload_n 0, 1, 0, 0, 0) := rfl
theorem zh_X9_needWord_1 : zfe zqX9_needWord.i 1 = some (1, .invokestatic 52, 3, 71, 1, 0) := rfl
theorem zh_X9_needWord_4 : zfe zqX9_needWord.i 4 = some (4, .ifCond .ne 13, 3, 0, 0, 0) := rfl
theorem zh_X9_needWord_7 : zfe zqX9_needWord.i 7 = some (7, .new 58, 3, 0, 61, 62) := rfl
theorem zh_X9_needWord_17 : zfe zqX9_needWord.i 17 = some (17, .return_, 1, 0, 0, 0) := rfl
theorem ze_X9_needWord_0 {d : Nat} {f : zF} {m : zM} {x0 : Int64} {a1 : Value} : zex zTb d zqX9_needWord 0 [.long x0, a1] [] f m = zcal zTb (zrun zTb d 71 [.long x0] f m) d zqX9_needWord 1 4 [.long x0, a1] [] := (zxl_go (x := (1, [.long x0, a1], [.long x0], f, m)) zh_X9_needWord_0 rfl).trans (((zx_static zh_X9_needWord_1 (Nat.le_of_ble_eq_true rfl) rfl rfl).trans (if_pos (Nat.le_of_ble_eq_true rfl))))
theorem ze_X9_needWord_4 {d : Nat} {f : zF} {m : zM} {a0 a1 : Value} {y0 : Int32} : zex zTb d zqX9_needWord 4 [a0, a1] [.int y0] f m = if zc1 .ne y0 = true then zex zTb d zqX9_needWord 17 [a0, a1] [] f m else zex zTb d zqX9_needWord 7 [a0, a1] [] f m := (zx_if (tgt := 17) zh_X9_needWord_4 rfl)
theorem ze_X9_needWord_7 {d : Nat} {f : zF} {m : zM} {a0 a1 : Value} : zex zTb d zqX9_needWord 7 [a0, a1] [] f m = some (.inr 0, f, (none, m.2.1 + 1, m.2.2 + 6)) := (zx_throw zh_X9_needWord_7 (Nat.le_of_ble_eq_true rfl))
theorem ze_X9_needWord_17 {d : Nat} {f : zF} {m : zM} {a0 a1 : Value} : zex zTb d zqX9_needWord 17 [a0, a1] [] f m = some (.inl none, f, m) := (zx_ret zh_X9_needWord_17 rfl)
-- X9_push
theorem zh_X9_push_0 : zfe zqX9_push.i 0 = some (0, .iload_n 1, 1, 0, 0, 0) := rfl
theorem zh_X9_push_1 : zfe zqX9_push.i 1 = some (1, .ifCond .lt 8, 3, 0, 0, 0) := rfl
theorem zh_X9_push_4 : zfe zqX9_push.i 4 = some (4, .iload_n 1, 1, 0, 0, 0) := rfl
theorem zh_X9_push_5 : zfe zqX9_push.i 5 = some (5, .iconst 2, 1, 0, 0, 0) := rfl
theorem zh_X9_push_6 : zfe zqX9_push.i 6 = some (6, .if_icmp .le 13, 3, 0, 0, 0) := rfl
theorem zh_X9_push_9 : zfe zqX9_push.i 9 = some (9, .new 58, 3, 0, 206, 62) := rfl
theorem zh_X9_push_19 : zfe zqX9_push.i 19 = some (19, .iload_n 1, 1, 0, 0, 0) := rfl
theorem zh_X9_push_20 : zfe zqX9_push.i 20 = some (20, .iconst 2, 1, 0, 0, 0) := rfl
theorem zh_X9_push_21 : zfe zqX9_push.i 21 = some (21, .if_icmp .ne 20, 3, 0, 0, 0) := rfl
theorem zh_X9_push_24 : zfe zqX9_push.i 24 = some (24, .iload_n 2, 1, 0, 0, 0) := rfl
theorem zh_X9_push_25 : zfe zqX9_push.i 25 = some (25, .invokestatic 207, 3, 70, 1, 0) := rfl
theorem zh_X9_push_28 : zfe zqX9_push.i 28 = some (28, .ifCond .ne 13, 3, 0, 0, 0) := rfl
theorem zh_X9_push_31 : zfe zqX9_push.i 31 = some (31, .new 58, 3, 0, 211, 62) := rfl
theorem zh_X9_push_41 : zfe zqX9_push.i 41 = some (41, .aload_n 0, 1, 0, 0, 0) := rfl
theorem zh_X9_push_42 : zfe zqX9_push.i 42 = some (42, .getfield 212, 3, 8, 9, 0) := rfl
theorem zh_X9_push_45 : zfe zqX9_push.i 45 = some (45, .aload_n 0, 1, 0, 0, 0) := rfl
theorem zh_X9_push_46 : zfe zqX9_push.i 46 = some (46, .getfield 48, 3, 8, 8, 0) := rfl
theorem zh_X9_push_49 : zfe zqX9_push.i 49 = some (49, .arraylength, 1, 0, 0, 0) := rfl
theorem zh_X9_push_50 : zfe zqX9_push.i 50 = some (50, .if_icmp .lt 13, 3, 0, 0, 0) := rfl
theorem zh_X9_push_53 : zfe zqX9_push.i 53 = some (53, .new 73, 3, 1, 216, 77) := rfl
theorem zh_X9_push_63 : zfe zqX9_push.i 63 = some (63, .aload_n 0, 1, 0, 0, 0) := rfl
theorem zh_X9_push_64 : zfe zqX9_push.i 64 = some (64, .getfield 48, 3, 8, 8, 0) := rfl
theorem zh_X9_push_67 : zfe zqX9_push.i 67 = some (67, .aload_n 0, 1, 0, 0, 0) := rfl
theorem zh_X9_push_68 : zfe zqX9_push.i 68 = some (68, .getfield 212, 3, 8, 9, 0) := rfl
theorem zh_X9_push_71 : zfe zqX9_push.i 71 = some (71, .aaload, 1, 0, 0, 0) := rfl
theorem zh_X9_push_72 : zfe zqX9_push.i 72 = some (72, .iload_n 1, 1, 0, 0, 0) := rfl
theorem zh_X9_push_73 : zfe zqX9_push.i 73 = some (73, .iload_n 2, 1, 0, 0, 0) := rfl
theorem zh_X9_push_74 : zfe zqX9_push.i 74 = some (74, .invokevirtual 217, 3, 18, 3, 2) := rfl
theorem zh_X9_push_77 : zfe zqX9_push.i 77 = some (77, .aload_n 0, 1, 0, 0, 0) := rfl
theorem zh_X9_push_78 : zfe zqX9_push.i 78 = some (78, .dup, 1, 0, 0, 0) := rfl
theorem zh_X9_push_79 : zfe zqX9_push.i 79 = some (79, .getfield 212, 3, 8, 9, 0) := rfl
theorem zh_X9_push_82 : zfe zqX9_push.i 82 = some (82, .iconst 1, 1, 0, 0, 0) := rfl
theorem zh_X9_push_83 : zfe zqX9_push.i 83 = some (83, .iadd, 1, 0, 0, 0) := rfl
theorem zh_X9_push_84 : zfe zqX9_push.i 84 = some (84, .putfield 212, 3, 8, 9, 0) := rfl
theorem zh_X9_push_87 : zfe zqX9_push.i 87 = some (87, .aload_n 0, 1, 0, 0, 0) := rfl
theorem zh_X9_push_88 : zfe zqX9_push.i 88 = some (88, .getfield 212, 3, 8, 9, 0) := rfl
theorem zh_X9_push_91 : zfe zqX9_push.i 91 = some (91, .ireturn, 1, 0, 0, 0) := rfl
theorem ze_X9_push_0 {d : Nat} {f : zF} {m : zM} {a0 a2 : Value} {x1 : Int32} : zex zTb d zqX9_push 0 [a0, .int x1, a2] [] f m = if zc1 .lt x1 = true then zex zTb d zqX9_push 9 [a0, .int x1, a2] [] f m else zex zTb d zqX9_push 4 [a0, .int x1, a2] [] f m := (zxl_go (x := (1, [a0, .int x1, a2], [.int x1], f, m)) zh_X9_push_0 rfl).trans ((zx_if (tgt := 9) zh_X9_push_1 rfl))
theorem ze_X9_push_4 {d : Nat} {f : zF} {m : zM} {a0 a2 : Value} {x1 : Int32} : zex zTb d zqX9_push 4 [a0, .int x1, a2] [] f m = if zc2 .le x1 (I 2) = true then zex zTb d zqX9_push 19 [a0, .int x1, a2] [] f m else zex zTb d zqX9_push 9 [a0, .int x1, a2] [] f m := (zxl_go (x := (5, [a0, .int x1, a2], [.int x1], f, m)) zh_X9_push_4 rfl).trans ((zx_iconst zh_X9_push_5).trans ((zx_icmp (tgt := 19) zh_X9_push_6 rfl)))
theorem ze_X9_push_9 {d : Nat} {f : zF} {m : zM} {a0 a1 a2 : Value} : zex zTb d zqX9_push 9 [a0, a1, a2] [] f m = some (.inr 0, f, (none, m.2.1 + 1, m.2.2 + 6)) := (zx_throw zh_X9_push_9 (Nat.le_of_ble_eq_true rfl))
theorem ze_X9_push_19 {d : Nat} {f : zF} {m : zM} {a0 a2 : Value} {x1 : Int32} : zex zTb d zqX9_push 19 [a0, .int x1, a2] [] f m = if zc2 .ne x1 (I 2) = true then zex zTb d zqX9_push 41 [a0, .int x1, a2] [] f m else zex zTb d zqX9_push 24 [a0, .int x1, a2] [] f m := (zxl_go (x := (20, [a0, .int x1, a2], [.int x1], f, m)) zh_X9_push_19 rfl).trans ((zx_iconst zh_X9_push_20).trans ((zx_icmp (tgt := 41) zh_X9_push_21 rfl)))
theorem ze_X9_push_24 {d : Nat} {f : zF} {m : zM} {a0 a1 : Value} {x2 : Int32} : zex zTb d zqX9_push 24 [a0, a1, .int x2] [] f m = zcal zTb (zrun zTb d 70 [.int x2] f m) d zqX9_push 25 28 [a0, a1, .int x2] [] := (zxl_go (x := (25, [a0, a1, .int x2], [.int x2], f, m)) zh_X9_push_24 rfl).trans (((zx_static zh_X9_push_25 (Nat.le_of_ble_eq_true rfl) rfl rfl).trans (if_pos (Nat.le_of_ble_eq_true rfl))))
theorem ze_X9_push_28 {d : Nat} {f : zF} {m : zM} {a0 a1 a2 : Value} {y0 : Int32} : zex zTb d zqX9_push 28 [a0, a1, a2] [.int y0] f m = if zc1 .ne y0 = true then zex zTb d zqX9_push 41 [a0, a1, a2] [] f m else zex zTb d zqX9_push 31 [a0, a1, a2] [] f m := (zx_if (tgt := 41) zh_X9_push_28 rfl)
theorem ze_X9_push_31 {d : Nat} {f : zF} {m : zM} {a0 a1 a2 : Value} : zex zTb d zqX9_push 31 [a0, a1, a2] [] f m = some (.inr 0, f, (none, m.2.1 + 1, m.2.2 + 6)) := (zx_throw zh_X9_push_31 (Nat.le_of_ble_eq_true rfl))
theorem ze_X9_push_41 {d : Nat} {f : zF} {m : zM} {x0 : Nat} {a1 a2 : Value} : zex zTb d zqX9_push 41 [.ref x0, a1, a2] [] f m = if zco (f x0) 8 9 = true then zex zTb d zqX9_push 45 [.ref x0, a1, a2] [zcf (f x0) 9] f m else none := (zxl_go (x := (42, [.ref x0, a1, a2], [.ref x0], f, m)) zh_X9_push_41 rfl).trans ((zx_getfield zh_X9_push_42))
theorem ze_X9_push_45 {d : Nat} {f : zF} {m : zM} {x0 : Nat} {a1 a2 : Value} {y0 : Int32} : zex zTb d zqX9_push 45 [.ref x0, a1, a2] [.int y0] f m = if zco (f x0) 8 8 = true then zex zTb d zqX9_push 49 [.ref x0, a1, a2] [zcf (f x0) 8, .int y0] f m else none := (zxl_go (x := (46, [.ref x0, a1, a2], [.ref x0, .int y0], f, m)) zh_X9_push_45 rfl).trans ((zx_getfield zh_X9_push_46))
theorem ze_X9_push_49 {d : Nat} {f : zF} {m : zM} {a0 a1 a2 : Value} {y0 : Int32} {y1 : Nat} : zex zTb d zqX9_push 49 [a0, a1, a2] [.ref y1, .int y0] f m = if zisa (f y1) = true then zex zTb d zqX9_push 50 [a0, a1, a2] [.int (Int32.ofNat (zln (f y1))), .int y0] f m else none := (zx_alen zh_X9_push_49)
theorem ze_X9_push_50 {d : Nat} {f : zF} {m : zM} {a0 a1 a2 : Value} {y0 y1 : Int32} : zex zTb d zqX9_push 50 [a0, a1, a2] [.int y1, .int y0] f m = if zc2 .lt y0 y1 = true then zex zTb d zqX9_push 63 [a0, a1, a2] [] f m else zex zTb d zqX9_push 53 [a0, a1, a2] [] f m := (zx_icmp (tgt := 63) zh_X9_push_50 rfl)
theorem ze_X9_push_53 {d : Nat} {f : zF} {m : zM} {a0 a1 a2 : Value} : zex zTb d zqX9_push 53 [a0, a1, a2] [] f m = some (.inr 1, f, (none, m.2.1 + 1, m.2.2 + 6)) := (zx_throw zh_X9_push_53 (Nat.le_of_ble_eq_true rfl))
theorem ze_X9_push_63 {d : Nat} {f : zF} {m : zM} {x0 : Nat} {a1 a2 : Value} : zex zTb d zqX9_push 63 [.ref x0, a1, a2] [] f m = if zco (f x0) 8 8 = true then zex zTb d zqX9_push 67 [.ref x0, a1, a2] [zcf (f x0) 8] f m else none := (zxl_go (x := (64, [.ref x0, a1, a2], [.ref x0], f, m)) zh_X9_push_63 rfl).trans ((zx_getfield zh_X9_push_64))
theorem ze_X9_push_67 {d : Nat} {f : zF} {m : zM} {x0 y0 : Nat} {a1 a2 : Value} : zex zTb d zqX9_push 67 [.ref x0, a1, a2] [.ref y0] f m = if zco (f x0) 8 9 = true then zex zTb d zqX9_push 71 [.ref x0, a1, a2] [zcf (f x0) 9, .ref y0] f m else none := (zxl_go (x := (68, [.ref x0, a1, a2], [.ref x0, .ref y0], f, m)) zh_X9_push_67 rfl).trans ((zx_getfield zh_X9_push_68))
theorem ze_X9_push_71 {d : Nat} {f : zF} {m : zM} {a0 a1 a2 : Value} {y0 : Nat} {y1 : Int32} : zex zTb d zqX9_push 71 [a0, a1, a2] [.int y1, .ref y0] f m = if zrq (f y0) y1 = true then zex zTb d zqX9_push 72 [a0, a1, a2] [.ref (zgq (f y0) y1.toNatClampNeg)] f m else none := (zx_aaload zh_X9_push_71)
theorem ze_X9_push_72 {d : Nat} {f : zF} {m : zM} {a0 : Value} {x1 x2 : Int32} {y0 : Nat} : zex zTb d zqX9_push 72 [a0, .int x1, .int x2] [.ref y0] f m = if zisc (f y0) 2 = true then zcal zTb (zrun zTb d 18 [.ref y0, .int x1, .int x2] f m) d zqX9_push 74 77 [a0, .int x1, .int x2] [] else none := (zxl_go (x := (73, [a0, .int x1, .int x2], [.int x1, .ref y0], f, m)) zh_X9_push_72 rfl).trans ((zxl_go (x := (74, [a0, .int x1, .int x2], [.int x2, .int x1, .ref y0], f, m)) zh_X9_push_73 rfl).trans ((zx_virtual4 zh_X9_push_74 (Nat.le_of_ble_eq_true rfl) rfl rfl (Nat.le_of_ble_eq_true rfl))))
theorem ze_X9_push_77 {d : Nat} {f : zF} {m : zM} {x0 : Nat} {a1 a2 : Value} : zex zTb d zqX9_push 77 [.ref x0, a1, a2] [] f m = if zco (f x0) 8 9 = true then zex zTb d zqX9_push 82 [.ref x0, a1, a2] [zcf (f x0) 9, .ref x0] f m else none := (zxl_go (x := (78, [.ref x0, a1, a2], [.ref x0], f, m)) zh_X9_push_77 rfl).trans ((zxl_go (x := (79, [.ref x0, a1, a2], [.ref x0, .ref x0], f, m)) zh_X9_push_78 rfl).trans ((zx_getfield zh_X9_push_79)))
theorem ze_X9_push_82 {d : Nat} {f : zF} {m : zM} {a0 a1 a2 : Value} {y0 : Nat} {y1 : Int32} : zex zTb d zqX9_push 82 [a0, a1, a2] [.int y1, .ref y0] f m = if (zco (f y0) 8 9 && zok (zfty 8 9) (.int (y1 + (I 1)))) = true then zex zTb d zqX9_push 87 [a0, a1, a2] [] (zup f y0 (zcs (f y0) 9 (.int (y1 + (I 1))))) m else none := (zx_iconst zh_X9_push_82).trans ((zxl_go (x := (84, [a0, a1, a2], [.int (y1 + (I 1)), .ref y0], f, m)) zh_X9_push_83 rfl).trans ((zx_putfield zh_X9_push_84)))
theorem ze_X9_push_87 {d : Nat} {f : zF} {m : zM} {x0 : Nat} {a1 a2 : Value} : zex zTb d zqX9_push 87 [.ref x0, a1, a2] [] f m = if zco (f x0) 8 9 = true then zex zTb d zqX9_push 91 [.ref x0, a1, a2] [zcf (f x0) 9] f m else none := (zxl_go (x := (88, [.ref x0, a1, a2], [.ref x0], f, m)) zh_X9_push_87 rfl).trans ((zx_getfield zh_X9_push_88))
theorem ze_X9_push_91 {d : Nat} {f : zF} {m : zM} {a0 a1 a2 : Value} {y0 : Int32} : zex zTb d zqX9_push 91 [a0, a1, a2] [.int y0] f m = some (.inl (some (.int y0)), f, m) := (zx_iret zh_X9_push_91 (by first | rfl | decide))
-- X9_wrap
theorem zh_X9_wrap_0 : zfe zqX9_wrap.i 0 = some (0, .iload_n 1, 1, 0, 0, 0) := rfl
theorem zh_X9_wrap_1 : zfe zqX9_wrap.i 1 = some (1, .iconst 3, 1, 0, 0, 0) := rfl
theorem zh_X9_wrap_2 : zfe zqX9_wrap.i 2 = some (2, .if_icmp .eq 18, 3, 0, 0, 0) := rfl
theorem zh_X9_wrap_5 : zfe zqX9_wrap.i 5 = some (5, .iload_n 1, 1, 0, 0, 0) := rfl
theorem zh_X9_wrap_6 : zfe zqX9_wrap.i 6 = some (6, .iconst 4, 1, 0, 0, 0) := rfl
theorem zh_X9_wrap_7 : zfe zqX9_wrap.i 7 = some (7, .if_icmp .eq 13, 3, 0, 0, 0) := rfl
theorem zh_X9_wrap_10 : zfe zqX9_wrap.i 10 = some (10, .new 58, 3, 0, 222, 62) := rfl
theorem zh_X9_wrap_20 : zfe zqX9_wrap.i 20 = some (20, .aload_n 0, 1, 0, 0, 0) := rfl
theorem zh_X9_wrap_21 : zfe zqX9_wrap.i 21 = some (21, .invokevirtual 223, 3, 110, 1, 8) := rfl
theorem zh_X9_wrap_24 : zfe zqX9_wrap.i 24 = some (24, .astore_n 2, 1, 0, 0, 0) := rfl
theorem zh_X9_wrap_25 : zfe zqX9_wrap.i 25 = some (25, .aload_n 2, 1, 0, 0, 0) := rfl
theorem zh_X9_wrap_26 : zfe zqX9_wrap.i 26 = some (26, .getfield 159, 3, 2, 3, 0) := rfl
theorem zh_X9_wrap_29 : zfe zqX9_wrap.i 29 = some (29, .iconst 1, 1, 0, 0, 0) := rfl
theorem zh_X9_wrap_30 : zfe zqX9_wrap.i 30 = some (30, .iadd, 1, 0, 0, 0) := rfl
theorem zh_X9_wrap_31 : zfe zqX9_wrap.i 31 = some (31, .bipush 60, 2, 0, 0, 0) := rfl
theorem zh_X9_wrap_33 : zfe zqX9_wrap.i 33 = some (33, .if_icmp .le 13, 3, 0, 0, 0) := rfl
theorem zh_X9_wrap_36 : zfe zqX9_wrap.i 36 = some (36, .new 73, 3, 1, 228, 77) := rfl
theorem zh_X9_wrap_46 : zfe zqX9_wrap.i 46 = some (46, .aload_n 2, 1, 0, 0, 0) := rfl
theorem zh_X9_wrap_47 : zfe zqX9_wrap.i 47 = some (47, .iload_n 1, 1, 0, 0, 0) := rfl
theorem zh_X9_wrap_48 : zfe zqX9_wrap.i 48 = some (48, .invokevirtual 229, 3, 20, 2, 2) := rfl
theorem zh_X9_wrap_51 : zfe zqX9_wrap.i 51 = some (51, .aload_n 2, 1, 0, 0, 0) := rfl
theorem zh_X9_wrap_52 : zfe zqX9_wrap.i 52 = some (52, .getfield 159, 3, 2, 3, 0) := rfl
theorem zh_X9_wrap_55 : zfe zqX9_wrap.i 55 = some (55, .ireturn, 1, 0, 0, 0) := rfl
theorem ze_X9_wrap_0 {d : Nat} {f : zF} {m : zM} {a0 a2 : Value} {x1 : Int32} : zex zTb d zqX9_wrap 0 [a0, .int x1, a2] [] f m = if zc2 .eq x1 (I 3) = true then zex zTb d zqX9_wrap 20 [a0, .int x1, a2] [] f m else zex zTb d zqX9_wrap 5 [a0, .int x1, a2] [] f m := (zxl_go (x := (1, [a0, .int x1, a2], [.int x1], f, m)) zh_X9_wrap_0 rfl).trans ((zx_iconst zh_X9_wrap_1).trans ((zx_icmp (tgt := 20) zh_X9_wrap_2 rfl)))
theorem ze_X9_wrap_5 {d : Nat} {f : zF} {m : zM} {a0 a2 : Value} {x1 : Int32} : zex zTb d zqX9_wrap 5 [a0, .int x1, a2] [] f m = if zc2 .eq x1 (I 4) = true then zex zTb d zqX9_wrap 20 [a0, .int x1, a2] [] f m else zex zTb d zqX9_wrap 10 [a0, .int x1, a2] [] f m := (zxl_go (x := (6, [a0, .int x1, a2], [.int x1], f, m)) zh_X9_wrap_5 rfl).trans ((zx_iconst zh_X9_wrap_6).trans ((zx_icmp (tgt := 20) zh_X9_wrap_7 rfl)))
theorem ze_X9_wrap_10 {d : Nat} {f : zF} {m : zM} {a0 a1 a2 : Value} : zex zTb d zqX9_wrap 10 [a0, a1, a2] [] f m = some (.inr 0, f, (none, m.2.1 + 1, m.2.2 + 6)) := (zx_throw zh_X9_wrap_10 (Nat.le_of_ble_eq_true rfl))
theorem ze_X9_wrap_20 {d : Nat} {f : zF} {m : zM} {x0 : Nat} {a1 a2 : Value} : zex zTb d zqX9_wrap 20 [.ref x0, a1, a2] [] f m = if zisc (f x0) 8 = true then zcal zTb (zrun zTb d 110 [.ref x0] f m) d zqX9_wrap 21 24 [.ref x0, a1, a2] [] else none := (zxl_go (x := (21, [.ref x0, a1, a2], [.ref x0], f, m)) zh_X9_wrap_20 rfl).trans ((zx_virtual4 zh_X9_wrap_21 (Nat.le_of_ble_eq_true rfl) rfl rfl (Nat.le_of_ble_eq_true rfl)))
theorem ze_X9_wrap_24 {d : Nat} {f : zF} {m : zM} {a0 a1 a2 : Value} {y0 : Nat} : zex zTb d zqX9_wrap 24 [a0, a1, a2] [.ref y0] f m = if zco (f y0) 2 3 = true then zex zTb d zqX9_wrap 29 [a0, (zclr a1), .ref y0] [zcf (f y0) 3] f m else none := (zxl_go (x := (25, [a0, (zclr a1), .ref y0], [], f, m)) zh_X9_wrap_24 rfl).trans ((zxl_go (x := (26, [a0, (zclr a1), .ref y0], [.ref y0], f, m)) zh_X9_wrap_25 rfl).trans ((zx_getfield zh_X9_wrap_26)))
theorem ze_X9_wrap_29 {d : Nat} {f : zF} {m : zM} {a0 a1 a2 : Value} {y0 : Int32} : zex zTb d zqX9_wrap 29 [a0, a1, a2] [.int y0] f m = if zc2 .le (y0 + (I 1)) (I 60) = true then zex zTb d zqX9_wrap 46 [a0, a1, a2] [] f m else zex zTb d zqX9_wrap 36 [a0, a1, a2] [] f m := (zx_iconst zh_X9_wrap_29).trans ((zxl_go (x := (31, [a0, a1, a2], [.int (y0 + (I 1))], f, m)) zh_X9_wrap_30 rfl).trans ((zx_bipush zh_X9_wrap_31 (by decide)).trans ((zx_icmp (tgt := 46) zh_X9_wrap_33 rfl))))
theorem ze_X9_wrap_36 {d : Nat} {f : zF} {m : zM} {a0 a1 a2 : Value} : zex zTb d zqX9_wrap 36 [a0, a1, a2] [] f m = some (.inr 1, f, (none, m.2.1 + 1, m.2.2 + 6)) := (zx_throw zh_X9_wrap_36 (Nat.le_of_ble_eq_true rfl))
theorem ze_X9_wrap_46 {d : Nat} {f : zF} {m : zM} {a0 : Value} {x1 : Int32} {x2 : Nat} : zex zTb d zqX9_wrap 46 [a0, .int x1, .ref x2] [] f m = if zisc (f x2) 2 = true then zcal zTb (zrun zTb d 20 [.ref x2, .int x1] f m) d zqX9_wrap 48 51 [a0, .int x1, .ref x2] [] else none := (zxl_go (x := (47, [a0, .int x1, .ref x2], [.ref x2], f, m)) zh_X9_wrap_46 rfl).trans ((zxl_go (x := (48, [a0, .int x1, .ref x2], [.int x1, .ref x2], f, m)) zh_X9_wrap_47 rfl).trans ((zx_virtual4 zh_X9_wrap_48 (Nat.le_of_ble_eq_true rfl) rfl rfl (Nat.le_of_ble_eq_true rfl))))
theorem ze_X9_wrap_51 {d : Nat} {f : zF} {m : zM} {a0 a1 : Value} {x2 : Nat} : zex zTb d zqX9_wrap 51 [a0, a1, .ref x2] [] f m = if zco (f x2) 2 3 = true then zex zTb d zqX9_wrap 55 [a0, a1, .ref x2] [zcf (f x2) 3] f m else none := (zxl_go (x := (52, [a0, a1, .ref x2], [.ref x2], f, m)) zh_X9_wrap_51 rfl).trans ((zx_getfield zh_X9_wrap_52))
theorem ze_X9_wrap_55 {d : Nat} {f : zF} {m : zM} {a0 a1 a2 : Value} {y0 : Int32} : zex zTb d zqX9_wrap 55 [a0, a1, a2] [.int y0] f m = some (.inl (some (.int y0)), f, m) := (zx_iret zh_X9_wrap_55 (by first | rfl | decide))
-- X9_join
theorem zh_X9_join_0 : zfe zqX9_join.i 0 = some (0, .iload_n 1, 1, 0, 0, 0) := rfl
theorem zh_X9_join_1 : zfe zqX9_join.i 1 = some (1, .iconst 5, 1, 0, 0, 0) := rfl
theorem zh_X9_join_2 : zfe zqX9_join.i 2 = some (2, .if_icmp .eq 19, 3, 0, 0, 0) := rfl
theorem zh_X9_join_5 : zfe zqX9_join.i 5 = some (5, .iload_n 1, 1, 0, 0, 0) := rfl
theorem zh_X9_join_6 : zfe zqX9_join.i 6 = some (6, .bipush 6, 2, 0, 0, 0) := rfl
theorem zh_X9_join_8 : zfe zqX9_join.i 8 = some (8, .if_icmp .eq 13, 3, 0, 0, 0) := rfl
theorem zh_X9_join_11 : zfe zqX9_join.i 11 = some (11, .new 58, 3, 0, 233, 62) := rfl
theorem zh_X9_join_21 : zfe zqX9_join.i 21 = some (21, .aload_n 0, 1, 0, 0, 0) := rfl
theorem zh_X9_join_22 : zfe zqX9_join.i 22 = some (22, .getfield 212, 3, 8, 9, 0) := rfl
theorem zh_X9_join_25 : zfe zqX9_join.i 25 = some (25, .iconst 2, 1, 0, 0, 0) := rfl
theorem zh_X9_join_26 : zfe zqX9_join.i 26 = some (26, .if_icmp .lt 15, 3, 0, 0, 0) := rfl
theorem zh_X9_join_29 : zfe zqX9_join.i 29 = some (29, .aload_n 0, 1, 0, 0, 0) := rfl
theorem zh_X9_join_30 : zfe zqX9_join.i 30 = some (30, .getfield 212, 3, 8, 9, 0) := rfl
theorem zh_X9_join_33 : zfe zqX9_join.i 33 = some (33, .aload_n 0, 1, 0, 0, 0) := rfl
theorem zh_X9_join_34 : zfe zqX9_join.i 34 = some (34, .getfield 48, 3, 8, 8, 0) := rfl
theorem zh_X9_join_37 : zfe zqX9_join.i 37 = some (37, .arraylength, 1, 0, 0, 0) := rfl
theorem zh_X9_join_38 : zfe zqX9_join.i 38 = some (38, .if_icmp .le 13, 3, 0, 0, 0) := rfl
theorem zh_X9_join_41 : zfe zqX9_join.i 41 = some (41, .new 73, 3, 1, 235, 77) := rfl
theorem zh_X9_join_51 : zfe zqX9_join.i 51 = some (51, .aload_n 0, 1, 0, 0, 0) := rfl
theorem zh_X9_join_52 : zfe zqX9_join.i 52 = some (52, .getfield 48, 3, 8, 8, 0) := rfl
theorem zh_X9_join_55 : zfe zqX9_join.i 55 = some (55, .aload_n 0, 1, 0, 0, 0) := rfl
theorem zh_X9_join_56 : zfe zqX9_join.i 56 = some (56, .getfield 212, 3, 8, 9, 0) := rfl
theorem zh_X9_join_59 : zfe zqX9_join.i 59 = some (59, .iconst 2, 1, 0, 0, 0) := rfl
theorem zh_X9_join_60 : zfe zqX9_join.i 60 = some (60, .isub, 1, 0, 0, 0) := rfl
theorem zh_X9_join_61 : zfe zqX9_join.i 61 = some (61, .aaload, 1, 0, 0, 0) := rfl
theorem zh_X9_join_62 : zfe zqX9_join.i 62 = some (62, .astore_n 2, 1, 0, 0, 0) := rfl
theorem zh_X9_join_63 : zfe zqX9_join.i 63 = some (63, .aload_n 0, 1, 0, 0, 0) := rfl
theorem zh_X9_join_64 : zfe zqX9_join.i 64 = some (64, .getfield 48, 3, 8, 8, 0) := rfl
theorem zh_X9_join_67 : zfe zqX9_join.i 67 = some (67, .aload_n 0, 1, 0, 0, 0) := rfl
theorem zh_X9_join_68 : zfe zqX9_join.i 68 = some (68, .getfield 212, 3, 8, 9, 0) := rfl
theorem zh_X9_join_71 : zfe zqX9_join.i 71 = some (71, .iconst 1, 1, 0, 0, 0) := rfl
theorem zh_X9_join_72 : zfe zqX9_join.i 72 = some (72, .isub, 1, 0, 0, 0) := rfl
theorem zh_X9_join_73 : zfe zqX9_join.i 73 = some (73, .aaload, 1, 0, 0, 0) := rfl
theorem zh_X9_join_74 : zfe zqX9_join.i 74 = some (74, .astore_n 3, 1, 0, 0, 0) := rfl
theorem zh_X9_join_75 : zfe zqX9_join.i 75 = some (75, .aload_n 2, 1, 0, 0, 0) := rfl
theorem zh_X9_join_76 : zfe zqX9_join.i 76 = some (76, .getfield 159, 3, 2, 3, 0) := rfl
theorem zh_X9_join_79 : zfe zqX9_join.i 79 = some (79, .aload_n 3, 1, 0, 0, 0) := rfl
theorem zh_X9_join_80 : zfe zqX9_join.i 80 = some (80, .getfield 159, 3, 2, 3, 0) := rfl
theorem zh_X9_join_83 : zfe zqX9_join.i 83 = some (83, .iadd, 1, 0, 0, 0) := rfl
theorem zh_X9_join_84 : zfe zqX9_join.i 84 = some (84, .iconst 1, 1, 0, 0, 0) := rfl
theorem zh_X9_join_85 : zfe zqX9_join.i 85 = some (85, .iadd, 1, 0, 0, 0) := rfl
theorem zh_X9_join_86 : zfe zqX9_join.i 86 = some (86, .bipush 60, 2, 0, 0, 0) := rfl
theorem zh_X9_join_88 : zfe zqX9_join.i 88 = some (88, .if_icmp .le 13, 3, 0, 0, 0) := rfl
theorem zh_X9_join_91 : zfe zqX9_join.i 91 = some (91, .new 73, 3, 1, 228, 77) := rfl
theorem zh_X9_join_101 : zfe zqX9_join.i 101 = some (101, .aload_n 2, 1, 0, 0, 0) := rfl
theorem zh_X9_join_102 : zfe zqX9_join.i 102 = some (102, .iload_n 1, 1, 0, 0, 0) := rfl
theorem zh_X9_join_103 : zfe zqX9_join.i 103 = some (103, .aload_n 3, 1, 0, 0, 0) := rfl
theorem zh_X9_join_104 : zfe zqX9_join.i 104 = some (104, .invokevirtual 236, 3, 21, 3, 2) := rfl
theorem zh_X9_join_107 : zfe zqX9_join.i 107 = some (107, .aload_n 0, 1, 0, 0, 0) := rfl
theorem zh_X9_join_108 : zfe zqX9_join.i 108 = some (108, .dup, 1, 0, 0, 0) := rfl
theorem zh_X9_join_109 : zfe zqX9_join.i 109 = some (109, .getfield 212, 3, 8, 9, 0) := rfl
theorem zh_X9_join_112 : zfe zqX9_join.i 112 = some (112, .iconst 1, 1, 0, 0, 0) := rfl
theorem zh_X9_join_113 : zfe zqX9_join.i 113 = some (113, .isub, 1, 0, 0, 0) := rfl
theorem zh_X9_join_114 : zfe zqX9_join.i 114 = some (114, .putfield 212, 3, 8, 9, 0) := rfl
theorem zh_X9_join_117 : zfe zqX9_join.i 117 = some (117, .aload_n 2, 1, 0, 0, 0) := rfl
theorem zh_X9_join_118 : zfe zqX9_join.i 118 = some (118, .getfield 159, 3, 2, 3, 0) := rfl
theorem zh_X9_join_121 : zfe zqX9_join.i 121 = some (121, .ireturn, 1, 0, 0, 0) := rfl
theorem ze_X9_join_0 {d : Nat} {f : zF} {m : zM} {a0 a2 a3 : Value} {x1 : Int32} : zex zTb d zqX9_join 0 [a0, .int x1, a2, a3] [] f m = if zc2 .eq x1 (I 5) = true then zex zTb d zqX9_join 21 [a0, .int x1, a2, a3] [] f m else zex zTb d zqX9_join 5 [a0, .int x1, a2, a3] [] f m := (zxl_go (x := (1, [a0, .int x1, a2, a3], [.int x1], f, m)) zh_X9_join_0 rfl).trans ((zx_iconst zh_X9_join_1).trans ((zx_icmp (tgt := 21) zh_X9_join_2 rfl)))
theorem ze_X9_join_5 {d : Nat} {f : zF} {m : zM} {a0 a2 a3 : Value} {x1 : Int32} : zex zTb d zqX9_join 5 [a0, .int x1, a2, a3] [] f m = if zc2 .eq x1 (I 6) = true then zex zTb d zqX9_join 21 [a0, .int x1, a2, a3] [] f m else zex zTb d zqX9_join 11 [a0, .int x1, a2, a3] [] f m := (zxl_go (x := (6, [a0, .int x1, a2, a3], [.int x1], f, m)) zh_X9_join_5 rfl).trans ((zx_bipush zh_X9_join_6 (by decide)).trans ((zx_icmp (tgt := 21) zh_X9_join_8 rfl)))
theorem ze_X9_join_11 {d : Nat} {f : zF} {m : zM} {a0 a1 a2 a3 : Value} : zex zTb d zqX9_join 11 [a0, a1, a2, a3] [] f m = some (.inr 0, f, (none, m.2.1 + 1, m.2.2 + 6)) := (zx_throw zh_X9_join_11 (Nat.le_of_ble_eq_true rfl))
theorem ze_X9_join_21 {d : Nat} {f : zF} {m : zM} {x0 : Nat} {a1 a2 a3 : Value} : zex zTb d zqX9_join 21 [.ref x0, a1, a2, a3] [] f m = if zco (f x0) 8 9 = true then zex zTb d zqX9_join 25 [.ref x0, a1, a2, a3] [zcf (f x0) 9] f m else none := (zxl_go (x := (22, [.ref x0, a1, a2, a3], [.ref x0], f, m)) zh_X9_join_21 rfl).trans ((zx_getfield zh_X9_join_22))
theorem ze_X9_join_25 {d : Nat} {f : zF} {m : zM} {a0 a1 a2 a3 : Value} {y0 : Int32} : zex zTb d zqX9_join 25 [a0, a1, a2, a3] [.int y0] f m = if zc2 .lt y0 (I 2) = true then zex zTb d zqX9_join 41 [a0, a1, a2, a3] [] f m else zex zTb d zqX9_join 29 [a0, a1, a2, a3] [] f m := (zx_iconst zh_X9_join_25).trans ((zx_icmp (tgt := 41) zh_X9_join_26 rfl))
theorem ze_X9_join_29 {d : Nat} {f : zF} {m : zM} {x0 : Nat} {a1 a2 a3 : Value} : zex zTb d zqX9_join 29 [.ref x0, a1, a2, a3] [] f m = if zco (f x0) 8 9 = true then zex zTb d zqX9_join 33 [.ref x0, a1, a2, a3] [zcf (f x0) 9] f m else none := (zxl_go (x := (30, [.ref x0, a1, a2, a3], [.ref x0], f, m)) zh_X9_join_29 rfl).trans ((zx_getfield zh_X9_join_30))
theorem ze_X9_join_33 {d : Nat} {f : zF} {m : zM} {x0 : Nat} {a1 a2 a3 : Value} {y0 : Int32} : zex zTb d zqX9_join 33 [.ref x0, a1, a2, a3] [.int y0] f m = if zco (f x0) 8 8 = true then zex zTb d zqX9_join 37 [.ref x0, a1, a2, a3] [zcf (f x0) 8, .int y0] f m else none := (zxl_go (x := (34, [.ref x0, a1, a2, a3], [.ref x0, .int y0], f, m)) zh_X9_join_33 rfl).trans ((zx_getfield zh_X9_join_34))
theorem ze_X9_join_37 {d : Nat} {f : zF} {m : zM} {a0 a1 a2 a3 : Value} {y0 : Int32} {y1 : Nat} : zex zTb d zqX9_join 37 [a0, a1, a2, a3] [.ref y1, .int y0] f m = if zisa (f y1) = true then zex zTb d zqX9_join 38 [a0, a1, a2, a3] [.int (Int32.ofNat (zln (f y1))), .int y0] f m else none := (zx_alen zh_X9_join_37)
theorem ze_X9_join_38 {d : Nat} {f : zF} {m : zM} {a0 a1 a2 a3 : Value} {y0 y1 : Int32} : zex zTb d zqX9_join 38 [a0, a1, a2, a3] [.int y1, .int y0] f m = if zc2 .le y0 y1 = true then zex zTb d zqX9_join 51 [a0, a1, a2, a3] [] f m else zex zTb d zqX9_join 41 [a0, a1, a2, a3] [] f m := (zx_icmp (tgt := 51) zh_X9_join_38 rfl)
theorem ze_X9_join_41 {d : Nat} {f : zF} {m : zM} {a0 a1 a2 a3 : Value} : zex zTb d zqX9_join 41 [a0, a1, a2, a3] [] f m = some (.inr 1, f, (none, m.2.1 + 1, m.2.2 + 6)) := (zx_throw zh_X9_join_41 (Nat.le_of_ble_eq_true rfl))
theorem ze_X9_join_51 {d : Nat} {f : zF} {m : zM} {x0 : Nat} {a1 a2 a3 : Value} : zex zTb d zqX9_join 51 [.ref x0, a1, a2, a3] [] f m = if zco (f x0) 8 8 = true then zex zTb d zqX9_join 55 [.ref x0, a1, a2, a3] [zcf (f x0) 8] f m else none := (zxl_go (x := (52, [.ref x0, a1, a2, a3], [.ref x0], f, m)) zh_X9_join_51 rfl).trans ((zx_getfield zh_X9_join_52))
theorem ze_X9_join_55 {d : Nat} {f : zF} {m : zM} {x0 y0 : Nat} {a1 a2 a3 : Value} : zex zTb d zqX9_join 55 [.ref x0, a1, a2, a3] [.ref y0] f m = if zco (f x0) 8 9 = true then zex zTb d zqX9_join 59 [.ref x0, a1, a2, a3] [zcf (f x0) 9, .ref y0] f m else none := (zxl_go (x := (56, [.ref x0, a1, a2, a3], [.ref x0, .ref y0], f, m)) zh_X9_join_55 rfl).trans ((zx_getfield zh_X9_join_56))
theorem ze_X9_join_59 {d : Nat} {f : zF} {m : zM} {a0 a1 a2 a3 : Value} {y0 : Nat} {y1 : Int32} : zex zTb d zqX9_join 59 [a0, a1, a2, a3] [.int y1, .ref y0] f m = if zrq (f y0) (y1 - (I 2)) = true then zex zTb d zqX9_join 62 [a0, a1, a2, a3] [.ref (zgq (f y0) (y1 - (I 2)).toNatClampNeg)] f m else none := (zx_iconst zh_X9_join_59).trans ((zxl_go (x := (61, [a0, a1, a2, a3], [.int (y1 - (I 2)), .ref y0], f, m)) zh_X9_join_60 rfl).trans ((zx_aaload zh_X9_join_61)))
theorem ze_X9_join_62 {d : Nat} {f : zF} {m : zM} {x0 y0 : Nat} {a1 a2 a3 : Value} : zex zTb d zqX9_join 62 [.ref x0, a1, a2, a3] [.ref y0] f m = if zco (f x0) 8 8 = true then zex zTb d zqX9_join 67 [.ref x0, (zclr a1), .ref y0, a3] [zcf (f x0) 8] f m else none := (zxl_go (x := (63, [.ref x0, (zclr a1), .ref y0, a3], [], f, m)) zh_X9_join_62 rfl).trans ((zxl_go (x := (64, [.ref x0, (zclr a1), .ref y0, a3], [.ref x0], f, m)) zh_X9_join_63 rfl).trans ((zx_getfield zh_X9_join_64)))
theorem ze_X9_join_67 {d : Nat} {f : zF} {m : zM} {x0 y0 : Nat} {a1 a2 a3 : Value} : zex zTb d zqX9_join 67 [.ref x0, a1, a2, a3] [.ref y0] f m = if zco (f x0) 8 9 = true then zex zTb d zqX9_join 71 [.ref x0, a1, a2, a3] [zcf (f x0) 9, .ref y0] f m else none := (zxl_go (x := (68, [.ref x0, a1, a2, a3], [.ref x0, .ref y0], f, m)) zh_X9_join_67 rfl).trans ((zx_getfield zh_X9_join_68))
theorem ze_X9_join_71 {d : Nat} {f : zF} {m : zM} {a0 a1 a2 a3 : Value} {y0 : Nat} {y1 : Int32} : zex zTb d zqX9_join 71 [a0, a1, a2, a3] [.int y1, .ref y0] f m = if zrq (f y0) (y1 - (I 1)) = true then zex zTb d zqX9_join 74 [a0, a1, a2, a3] [.ref (zgq (f y0) (y1 - (I 1)).toNatClampNeg)] f m else none := (zx_iconst zh_X9_join_71).trans ((zxl_go (x := (73, [a0, a1, a2, a3], [.int (y1 - (I 1)), .ref y0], f, m)) zh_X9_join_72 rfl).trans ((zx_aaload zh_X9_join_73)))
theorem ze_X9_join_74 {d : Nat} {f : zF} {m : zM} {a0 a1 a3 : Value} {x2 y0 : Nat} : zex zTb d zqX9_join 74 [a0, a1, .ref x2, a3] [.ref y0] f m = if zco (f x2) 2 3 = true then zex zTb d zqX9_join 79 [a0, a1, .ref x2, .ref y0] [zcf (f x2) 3] f m else none := (zxl_go (x := (75, [a0, a1, .ref x2, .ref y0], [], f, m)) zh_X9_join_74 rfl).trans ((zxl_go (x := (76, [a0, a1, .ref x2, .ref y0], [.ref x2], f, m)) zh_X9_join_75 rfl).trans ((zx_getfield zh_X9_join_76)))
theorem ze_X9_join_79 {d : Nat} {f : zF} {m : zM} {a0 a1 a2 : Value} {x3 : Nat} {y0 : Int32} : zex zTb d zqX9_join 79 [a0, a1, a2, .ref x3] [.int y0] f m = if zco (f x3) 2 3 = true then zex zTb d zqX9_join 83 [a0, a1, a2, .ref x3] [zcf (f x3) 3, .int y0] f m else none := (zxl_go (x := (80, [a0, a1, a2, .ref x3], [.ref x3, .int y0], f, m)) zh_X9_join_79 rfl).trans ((zx_getfield zh_X9_join_80))
theorem ze_X9_join_83 {d : Nat} {f : zF} {m : zM} {a0 a1 a2 a3 : Value} {y0 y1 : Int32} : zex zTb d zqX9_join 83 [a0, a1, a2, a3] [.int y1, .int y0] f m = if zc2 .le ((y0 + y1) + (I 1)) (I 60) = true then zex zTb d zqX9_join 101 [a0, a1, a2, a3] [] f m else zex zTb d zqX9_join 91 [a0, a1, a2, a3] [] f m := (zxl_go (x := (84, [a0, a1, a2, a3], [.int (y0 + y1)], f, m)) zh_X9_join_83 rfl).trans ((zx_iconst zh_X9_join_84).trans ((zxl_go (x := (86, [a0, a1, a2, a3], [.int ((y0 + y1) + (I 1))], f, m)) zh_X9_join_85 rfl).trans ((zx_bipush zh_X9_join_86 (by decide)).trans ((zx_icmp (tgt := 101) zh_X9_join_88 rfl)))))
theorem ze_X9_join_91 {d : Nat} {f : zF} {m : zM} {a0 a1 a2 a3 : Value} : zex zTb d zqX9_join 91 [a0, a1, a2, a3] [] f m = some (.inr 1, f, (none, m.2.1 + 1, m.2.2 + 6)) := (zx_throw zh_X9_join_91 (Nat.le_of_ble_eq_true rfl))
theorem ze_X9_join_101 {d : Nat} {f : zF} {m : zM} {a0 : Value} {x1 : Int32} {x2 x3 : Nat} : zex zTb d zqX9_join 101 [a0, .int x1, .ref x2, .ref x3] [] f m = if zisc (f x2) 2 = true then zcal zTb (zrun zTb d 21 [.ref x2, .int x1, .ref x3] f m) d zqX9_join 104 107 [a0, .int x1, .ref x2, .ref x3] [] else none := (zxl_go (x := (102, [a0, .int x1, .ref x2, .ref x3], [.ref x2], f, m)) zh_X9_join_101 rfl).trans ((zxl_go (x := (103, [a0, .int x1, .ref x2, .ref x3], [.int x1, .ref x2], f, m)) zh_X9_join_102 rfl).trans ((zxl_go (x := (104, [a0, .int x1, .ref x2, .ref x3], [.ref x3, .int x1, .ref x2], f, m)) zh_X9_join_103 rfl).trans ((zx_virtual4 zh_X9_join_104 (Nat.le_of_ble_eq_true rfl) rfl rfl (Nat.le_of_ble_eq_true rfl)))))
theorem ze_X9_join_107 {d : Nat} {f : zF} {m : zM} {x0 : Nat} {a1 a2 a3 : Value} : zex zTb d zqX9_join 107 [.ref x0, a1, a2, a3] [] f m = if zco (f x0) 8 9 = true then zex zTb d zqX9_join 112 [.ref x0, a1, a2, a3] [zcf (f x0) 9, .ref x0] f m else none := (zxl_go (x := (108, [.ref x0, a1, a2, a3], [.ref x0], f, m)) zh_X9_join_107 rfl).trans ((zxl_go (x := (109, [.ref x0, a1, a2, a3], [.ref x0, .ref x0], f, m)) zh_X9_join_108 rfl).trans ((zx_getfield zh_X9_join_109)))
theorem ze_X9_join_112 {d : Nat} {f : zF} {m : zM} {a0 a1 a2 a3 : Value} {y0 : Nat} {y1 : Int32} : zex zTb d zqX9_join 112 [a0, a1, a2, a3] [.int y1, .ref y0] f m = if (zco (f y0) 8 9 && zok (zfty 8 9) (.int (y1 - (I 1)))) = true then zex zTb d zqX9_join 117 [a0, a1, a2, a3] [] (zup f y0 (zcs (f y0) 9 (.int (y1 - (I 1))))) m else none := (zx_iconst zh_X9_join_112).trans ((zxl_go (x := (114, [a0, a1, a2, a3], [.int (y1 - (I 1)), .ref y0], f, m)) zh_X9_join_113 rfl).trans ((zx_putfield zh_X9_join_114)))
theorem ze_X9_join_117 {d : Nat} {f : zF} {m : zM} {a0 a1 a3 : Value} {x2 : Nat} : zex zTb d zqX9_join 117 [a0, a1, .ref x2, a3] [] f m = if zco (f x2) 2 3 = true then zex zTb d zqX9_join 121 [a0, a1, .ref x2, a3] [zcf (f x2) 3] f m else none := (zxl_go (x := (118, [a0, a1, .ref x2, a3], [.ref x2], f, m)) zh_X9_join_117 rfl).trans ((zx_getfield zh_X9_join_118))
theorem ze_X9_join_121 {d : Nat} {f : zF} {m : zM} {a0 a1 a2 a3 : Value} {y0 : Int32} : zex zTb d zqX9_join 121 [a0, a1, a2, a3] [.int y0] f m = some (.inl (some (.int y0)), f, m) := (zx_iret zh_X9_join_121 (by first | rfl | decide))
