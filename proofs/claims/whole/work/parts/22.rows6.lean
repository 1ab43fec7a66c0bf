/-! RU(Nat.le_of_ble_eq_true rfl)ING ROWS of the methods -/
-- L_add
theorem zh_L_add_0 : zfe zqL_add.i 0 = some (0, .aload 4, 2, 0, 0, 0) := rfl
theorem zh_L_add_2 : zfe zqL_add.i 2 = some (2, .iconst 0, 1, 0, 0, 0) := rfl
theorem zh_L_add_3 : zfe zqL_add.i 3 = some (3, .aload_n 0, 1, 0, 0, 0) := rfl
theorem zh_L_add_4 : zfe zqL_add.i 4 = some (4, .lload_n 1, 1, 0, 0, 0) := rfl
theorem zh_L_add_5 : zfe zqL_add.i 5 = some (5, .iload_n 3, 1, 0, 0, 0) := rfl
theorem zh_L_add_6 : zfe zqL_add.i 6 = some (6, .invokevirtual 7, 3, 78, 3, 8) := rfl
theorem zh_L_add_9 : zfe zqL_add.i 9 = some (9, .i2l, 1, 0, 0, 0) := rfl
theorem zh_L_add_10 : zfe zqL_add.i 10 = some (10, .lastore, 1, 0, 0, 0) := rfl
theorem zh_L_add_11 : zfe zqL_add.i 11 = some (11, .goto 11, 3, 0, 0, 0) := rfl
theorem zh_L_add_16 : zfe zqL_add.i 16 = some (16, .iconst 1, 1, 0, 0, 0) := rfl
theorem zh_L_add_17 : zfe zqL_add.i 17 = some (17, .ireturn, 1, 0, 0, 0) := rfl
theorem zh_L_add_20 : zfe zqL_add.i 20 = some (20, .iconst 2, 1, 0, 0, 0) := rfl
theorem zh_L_add_21 : zfe zqL_add.i 21 = some (21, .ireturn, 1, 0, 0, 0) := rfl
theorem zh_L_add_22 : zfe zqL_add.i 22 = some (22, .iconst 0, 1, 0, 0, 0) := rfl
theorem zh_L_add_23 : zfe zqL_add.i 23 = some (23, .ireturn, 1, 0, 0, 0) := rfl
theorem ze_L_add_0 {d : Nat} {f : zF} {m : zM} {x0 x4 : Nat} {x1 : Int64} {a2 a5 : Value} {x3 : Int32} : zex zTb d zqL_add 0 [.ref x0, .long x1, a2, .int x3, .ref x4, a5] [] f m = if zisc (f x0) 8 = true then zcal zTb (zrun zTb d 78 [.ref x0, .long x1, .int x3] f m) d zqL_add 6 9 [.ref x0, .long x1, a2, .int x3, .ref x4, a5] [.int (I 0), .ref x4] else none := (zxl_go (x := (2, [.ref x0, .long x1, a2, .int x3, .ref x4, a5], [.ref x4], f, m)) zh_L_add_0 rfl).trans ((zx_iconst zh_L_add_2).trans ((zxl_go (x := (4, [.ref x0, .long x1, a2, .int x3, .ref x4, a5], [.ref x0, .int (I 0), .ref x4], f, m)) zh_L_add_3 rfl).trans ((zxl_go (x := (5, [.ref x0, .long x1, a2, .int x3, .ref x4, a5], [.long x1, .ref x0, .int (I 0), .ref x4], f, m)) zh_L_add_4 rfl).trans ((zxl_go (x := (6, [.ref x0, .long x1, a2, .int x3, .ref x4, a5], [.int x3, .long x1, .ref x0, .int (I 0), .ref x4], f, m)) zh_L_add_5 rfl).trans ((zx_virtual4 zh_L_add_6 (Nat.le_of_ble_eq_true rfl) rfl rfl (Nat.le_of_ble_eq_true rfl)))))))
theorem ze_L_add_9 {d : Nat} {f : zF} {m : zM} {a0 a1 a2 a3 a4 a5 : Value} {y0 : Nat} {y1 y2 : Int32} : zex zTb d zqL_add 9 [a0, a1, a2, a3, a4, a5] [.int y2, .int y1, .ref y0] f m = if zrl (f y0) y1 = true then zex zTb d zqL_add 11 [a0, a1, a2, a3, a4, a5] [] (zup f y0 (zwl (f y0) y1.toNatClampNeg (y2.toInt64))) m else none := (zxl_go (x := (10, [a0, a1, a2, a3, a4, a5], [.long (y2.toInt64), .int y1, .ref y0], f, m)) zh_L_add_9 rfl).trans ((zx_lastore zh_L_add_10))
theorem ze_L_add_11 {d : Nat} {f : zF} {m : zM} {a0 a1 a2 a3 a4 a5 : Value} : zex zTb d zqL_add 11 [a0, a1, a2, a3, a4, a5] [] f m = some (.inl (some (.int (I 0))), f, m) := (zx_goto zh_L_add_11 rfl).trans ((zx_iconst zh_L_add_22).trans ((zx_iret zh_L_add_23 (by first | rfl | decide))))
theorem ze_L_add_16 {d : Nat} {f : zF} {m : zM} {a0 a1 a2 a3 a4 a5 : Value} : zex zTb d zqL_add 16 [a0, a1, a2, a3, a4, a5] [] f m = some (.inl (some (.int (I 1))), f, m) := (zx_iconst zh_L_add_16).trans ((zx_iret zh_L_add_17 (by first | rfl | decide)))
theorem ze_L_add_20 {d : Nat} {f : zF} {m : zM} {a0 a1 a2 a3 a4 a5 : Value} : zex zTb d zqL_add 20 [a0, a1, a2, a3, a4, a5] [] f m = some (.inl (some (.int (I 2))), f, m) := (zx_iconst zh_L_add_20).trans ((zx_iret zh_L_add_21 (by first | rfl | decide)))
-- L_mark
theorem zh_L_mark_0 : zfe zqL_mark.i 0 = some (0, .aload_n 3, 1, 0, 0, 0) := rfl
theorem zh_L_mark_1 : zfe zqL_mark.i 1 = some (1, .iconst 0, 1, 0, 0, 0) := rfl
theorem zh_L_mark_2 : zfe zqL_mark.i 2 = some (2, .aload_n 0, 1, 0, 0, 0) := rfl
theorem zh_L_mark_3 : zfe zqL_mark.i 3 = some (3, .iload_n 1, 1, 0, 0, 0) := rfl
theorem zh_L_mark_4 : zfe zqL_mark.i 4 = some (4, .iload_n 2, 1, 0, 0, 0) := rfl
theorem zh_L_mark_5 : zfe zqL_mark.i 5 = some (5, .invokevirtual 17, 3, 79, 3, 8) := rfl
theorem zh_L_mark_8 : zfe zqL_mark.i 8 = some (8, .ifCond .eq 7, 3, 0, 0, 0) := rfl
theorem zh_L_mark_11 : zfe zqL_mark.i 11 = some (11, .lconst 1, 1, 0, 0, 0) := rfl
theorem zh_L_mark_12 : zfe zqL_mark.i 12 = some (12, .goto 4, 3, 0, 0, 0) := rfl
theorem zh_L_mark_15 : zfe zqL_mark.i 15 = some (15, .lconst 0, 1, 0, 0, 0) := rfl
theorem zh_L_mark_16 : zfe zqL_mark.i 16 = some (16, .lastore, 1, 0, 0, 0) := rfl
theorem zh_L_mark_17 : zfe zqL_mark.i 17 = some (17, .goto 7, 3, 0, 0, 0) := rfl
theorem zh_L_mark_22 : zfe zqL_mark.i 22 = some (22, .iconst 1, 1, 0, 0, 0) := rfl
theorem zh_L_mark_23 : zfe zqL_mark.i 23 = some (23, .ireturn, 1, 0, 0, 0) := rfl
theorem zh_L_mark_24 : zfe zqL_mark.i 24 = some (24, .iconst 0, 1, 0, 0, 0) := rfl
theorem zh_L_mark_25 : zfe zqL_mark.i 25 = some (25, .ireturn, 1, 0, 0, 0) := rfl
theorem ze_L_mark_0 {d : Nat} {f : zF} {m : zM} {x0 x3 : Nat} {x1 x2 : Int32} {a4 : Value} : zex zTb d zqL_mark 0 [.ref x0, .int x1, .int x2, .ref x3, a4] [] f m = if zisc (f x0) 8 = true then zcal zTb (zrun zTb d 79 [.ref x0, .int x1, .int x2] f m) d zqL_mark 5 8 [.ref x0, .int x1, .int x2, .ref x3, a4] [.int (I 0), .ref x3] else none := (zxl_go (x := (1, [.ref x0, .int x1, .int x2, .ref x3, a4], [.ref x3], f, m)) zh_L_mark_0 rfl).trans ((zx_iconst zh_L_mark_1).trans ((zxl_go (x := (3, [.ref x0, .int x1, .int x2, .ref x3, a4], [.ref x0, .int (I 0), .ref x3], f, m)) zh_L_mark_2 rfl).trans ((zxl_go (x := (4, [.ref x0, .int x1, .int x2, .ref x3, a4], [.int x1, .ref x0, .int (I 0), .ref x3], f, m)) zh_L_mark_3 rfl).trans ((zxl_go (x := (5, [.ref x0, .int x1, .int x2, .ref x3, a4], [.int x2, .int x1, .ref x0, .int (I 0), .ref x3], f, m)) zh_L_mark_4 rfl).trans ((zx_virtual4 zh_L_mark_5 (Nat.le_of_ble_eq_true rfl) rfl rfl (Nat.le_of_ble_eq_true rfl)))))))
theorem ze_L_mark_8 {d : Nat} {f : zF} {m : zM} {a0 a1 a2 a3 a4 : Value} {y0 : Nat} {y1 y2 : Int32} : zex zTb d zqL_mark 8 [a0, a1, a2, a3, a4] [.int y2, .int y1, .ref y0] f m = if zc1 .eq y2 = true then zex zTb d zqL_mark 15 [a0, a1, a2, a3, a4] [.int y1, .ref y0] f m else zex zTb d zqL_mark 11 [a0, a1, a2, a3, a4] [.int y1, .ref y0] f m := (zx_if (tgt := 15) zh_L_mark_8 rfl)
theorem ze_L_mark_11 {d : Nat} {f : zF} {m : zM} {a0 a1 a2 a3 a4 : Value} {y0 : Nat} {y1 : Int32} : zex zTb d zqL_mark 11 [a0, a1, a2, a3, a4] [.int y1, .ref y0] f m = if zrl (f y0) y1 = true then zex zTb d zqL_mark 17 [a0, a1, a2, a3, a4] [] (zup f y0 (zwl (f y0) y1.toNatClampNeg (J 1))) m else none := (zx_lconst (v := 1) zh_L_mark_11 (by decide)).trans ((zx_goto zh_L_mark_12 rfl).trans ((zx_lastore zh_L_mark_16)))
theorem ze_L_mark_15 {d : Nat} {f : zF} {m : zM} {a0 a1 a2 a3 a4 : Value} {y0 : Nat} {y1 : Int32} : zex zTb d zqL_mark 15 [a0, a1, a2, a3, a4] [.int y1, .ref y0] f m = if zrl (f y0) y1 = true then zex zTb d zqL_mark 17 [a0, a1, a2, a3, a4] [] (zup f y0 (zwl (f y0) y1.toNatClampNeg (J 0))) m else none := (zx_lconst (v := 0) zh_L_mark_15 (by decide)).trans ((zx_lastore zh_L_mark_16))
theorem ze_L_mark_17 {d : Nat} {f : zF} {m : zM} {a0 a1 a2 a3 a4 : Value} : zex zTb d zqL_mark 17 [a0, a1, a2, a3, a4] [] f m = some (.inl (some (.int (I 0))), f, m) := (zx_goto zh_L_mark_17 rfl).trans ((zx_iconst zh_L_mark_24).trans ((zx_iret zh_L_mark_25 (by first | rfl | decide))))
theorem ze_L_mark_22 {d : Nat} {f : zF} {m : zM} {a0 a1 a2 a3 a4 : Value} : zex zTb d zqL_mark 22 [a0, a1, a2, a3, a4] [] f m = some (.inl (some (.int (I 1))), f, m) := (zx_iconst zh_L_mark_22).trans ((zx_iret zh_L_mark_23 (by first | rfl | decide)))
-- L_drop
theorem zh_L_drop_0 : zfe zqL_drop.i 0 = some (0, .aload_n 1, 1, 0, 0, 0) := rfl
theorem zh_L_drop_1 : zfe zqL_drop.i 1 = some (1, .iconst 0, 1, 0, 0, 0) := rfl
theorem zh_L_drop_2 : zfe zqL_drop.i 2 = some (2, .aload_n 0, 1, 0, 0, 0) := rfl
theorem zh_L_drop_3 : zfe zqL_drop.i 3 = some (3, .invokevirtual 23, 3, 80, 1, 8) := rfl
theorem zh_L_drop_6 : zfe zqL_drop.i 6 = some (6, .i2l, 1, 0, 0, 0) := rfl
theorem zh_L_drop_7 : zfe zqL_drop.i 7 = some (7, .lastore, 1, 0, 0, 0) := rfl
theorem zh_L_drop_8 : zfe zqL_drop.i 8 = some (8, .goto 6, 3, 0, 0, 0) := rfl
theorem zh_L_drop_12 : zfe zqL_drop.i 12 = some (12, .iconst 1, 1, 0, 0, 0) := rfl
theorem zh_L_drop_13 : zfe zqL_drop.i 13 = some (13, .ireturn, 1, 0, 0, 0) := rfl
theorem zh_L_drop_14 : zfe zqL_drop.i 14 = some (14, .iconst 0, 1, 0, 0, 0) := rfl
theorem zh_L_drop_15 : zfe zqL_drop.i 15 = some (15, .ireturn, 1, 0, 0, 0) := rfl
theorem ze_L_drop_0 {d : Nat} {f : zF} {m : zM} {x0 x1 : Nat} {a2 : Value} : zex zTb d zqL_drop 0 [.ref x0, .ref x1, a2] [] f m = if zisc (f x0) 8 = true then zcal zTb (zrun zTb d 80 [.ref x0] f m) d zqL_drop 3 6 [.ref x0, .ref x1, a2] [.int (I 0), .ref x1] else none := (zxl_go (x := (1, [.ref x0, .ref x1, a2], [.ref x1], f, m)) zh_L_drop_0 rfl).trans ((zx_iconst zh_L_drop_1).trans ((zxl_go (x := (3, [.ref x0, .ref x1, a2], [.ref x0, .int (I 0), .ref x1], f, m)) zh_L_drop_2 rfl).trans ((zx_virtual4 zh_L_drop_3 (Nat.le_of_ble_eq_true rfl) rfl rfl (Nat.le_of_ble_eq_true rfl)))))
theorem ze_L_drop_6 {d : Nat} {f : zF} {m : zM} {a0 a1 a2 : Value} {y0 : Nat} {y1 y2 : Int32} : zex zTb d zqL_drop 6 [a0, a1, a2] [.int y2, .int y1, .ref y0] f m = if zrl (f y0) y1 = true then zex zTb d zqL_drop 8 [a0, a1, a2] [] (zup f y0 (zwl (f y0) y1.toNatClampNeg (y2.toInt64))) m else none := (zxl_go (x := (7, [a0, a1, a2], [.long (y2.toInt64), .int y1, .ref y0], f, m)) zh_L_drop_6 rfl).trans ((zx_lastore zh_L_drop_7))
theorem ze_L_drop_8 {d : Nat} {f : zF} {m : zM} {a0 a1 a2 : Value} : zex zTb d zqL_drop 8 [a0, a1, a2] [] f m = some (.inl (some (.int (I 0))), f, m) := (zx_goto zh_L_drop_8 rfl).trans ((zx_iconst zh_L_drop_14).trans ((zx_iret zh_L_drop_15 (by first | rfl | decide))))
theorem ze_L_drop_12 {d : Nat} {f : zF} {m : zM} {a0 a1 a2 : Value} : zex zTb d zqL_drop 12 [a0, a1, a2] [] f m = some (.inl (some (.int (I 1))), f, m) := (zx_iconst zh_L_drop_12).trans ((zx_iret zh_L_drop_13 (by first | rfl | decide)))
-- L_setCost
theorem zh_L_setCost_0 : zfe zqL_setCost.i 0 = some (0, .aload_n 3, 1, 0, 0, 0) := rfl
theorem zh_L_setCost_1 : zfe zqL_setCost.i 1 = some (1, .iconst 0, 1, 0, 0, 0) := rfl
theorem zh_L_setCost_2 : zfe zqL_setCost.i 2 = some (2, .aload_n 0, 1, 0, 0, 0) := rfl
theorem zh_L_setCost_3 : zfe zqL_setCost.i 3 = some (3, .iload_n 1, 1, 0, 0, 0) := rfl
theorem zh_L_setCost_4 : zfe zqL_setCost.i 4 = some (4, .iload_n 2, 1, 0, 0, 0) := rfl
theorem zh_L_setCost_5 : zfe zqL_setCost.i 5 = some (5, .invokevirtual 27, 3, 81, 3, 8) := rfl
theorem zh_L_setCost_8 : zfe zqL_setCost.i 8 = some (8, .i2l, 1, 0, 0, 0) := rfl
theorem zh_L_setCost_9 : zfe zqL_setCost.i 9 = some (9, .lastore, 1, 0, 0, 0) := rfl
theorem zh_L_setCost_10 : zfe zqL_setCost.i 10 = some (10, .goto 11, 3, 0, 0, 0) := rfl
theorem zh_L_setCost_15 : zfe zqL_setCost.i 15 = some (15, .iconst 1, 1, 0, 0, 0) := rfl
theorem zh_L_setCost_16 : zfe zqL_setCost.i 16 = some (16, .ireturn, 1, 0, 0, 0) := rfl
theorem zh_L_setCost_19 : zfe zqL_setCost.i 19 = some (19, .iconst 2, 1, 0, 0, 0) := rfl
theorem zh_L_setCost_20 : zfe zqL_setCost.i 20 = some (20, .ireturn, 1, 0, 0, 0) := rfl
theorem zh_L_setCost_21 : zfe zqL_setCost.i 21 = some (21, .iconst 0, 1, 0, 0, 0) := rfl
theorem zh_L_setCost_22 : zfe zqL_setCost.i 22 = some (22, .ireturn, 1, 0, 0, 0) := rfl
theorem ze_L_setCost_0 {d : Nat} {f : zF} {m : zM} {x0 x3 : Nat} {x1 x2 : Int32} {a4 : Value} : zex zTb d zqL_setCost 0 [.ref x0, .int x1, .int x2, .ref x3, a4] [] f m = if zisc (f x0) 8 = true then zcal zTb (zrun zTb d 81 [.ref x0, .int x1, .int x2] f m) d zqL_setCost 5 8 [.ref x0, .int x1, .int x2, .ref x3, a4] [.int (I 0), .ref x3] else none := (zxl_go (x := (1, [.ref x0, .int x1, .int x2, .ref x3, a4], [.ref x3], f, m)) zh_L_setCost_0 rfl).trans ((zx_iconst zh_L_setCost_1).trans ((zxl_go (x := (3, [.ref x0, .int x1, .int x2, .ref x3, a4], [.ref x0, .int (I 0), .ref x3], f, m)) zh_L_setCost_2 rfl).trans ((zxl_go (x := (4, [.ref x0, .int x1, .int x2, .ref x3, a4], [.int x1, .ref x0, .int (I 0), .ref x3], f, m)) zh_L_setCost_3 rfl).trans ((zxl_go (x := (5, [.ref x0, .int x1, .int x2, .ref x3, a4], [.int x2, .int x1, .ref x0, .int (I 0), .ref x3], f, m)) zh_L_setCost_4 rfl).trans ((zx_virtual4 zh_L_setCost_5 (Nat.le_of_ble_eq_true rfl) rfl rfl (Nat.le_of_ble_eq_true rfl)))))))
theorem ze_L_setCost_8 {d : Nat} {f : zF} {m : zM} {a0 a1 a2 a3 a4 : Value} {y0 : Nat} {y1 y2 : Int32} : zex zTb d zqL_setCost 8 [a0, a1, a2, a3, a4] [.int y2, .int y1, .ref y0] f m = if zrl (f y0) y1 = true then zex zTb d zqL_setCost 10 [a0, a1, a2, a3, a4] [] (zup f y0 (zwl (f y0) y1.toNatClampNeg (y2.toInt64))) m else none := (zxl_go (x := (9, [a0, a1, a2, a3, a4], [.long (y2.toInt64), .int y1, .ref y0], f, m)) zh_L_setCost_8 rfl).trans ((zx_lastore zh_L_setCost_9))
theorem ze_L_setCost_10 {d : Nat} {f : zF} {m : zM} {a0 a1 a2 a3 a4 : Value} : zex zTb d zqL_setCost 10 [a0, a1, a2, a3, a4] [] f m = some (.inl (some (.int (I 0))), f, m) := (zx_goto zh_L_setCost_10 rfl).trans ((zx_iconst zh_L_setCost_21).trans ((zx_iret zh_L_setCost_22 (by first | rfl | decide))))
theorem ze_L_setCost_15 {d : Nat} {f : zF} {m : zM} {a0 a1 a2 a3 a4 : Value} : zex zTb d zqL_setCost 15 [a0, a1, a2, a3, a4] [] f m = some (.inl (some (.int (I 1))), f, m) := (zx_iconst zh_L_setCost_15).trans ((zx_iret zh_L_setCost_16 (by first | rfl | decide)))
theorem ze_L_setCost_19 {d : Nat} {f : zF} {m : zM} {a0 a1 a2 a3 a4 : Value} : zex zTb d zqL_setCost 19 [a0, a1, a2, a3, a4] [] f m = some (.inl (some (.int (I 2))), f, m) := (zx_iconst zh_L_setCost_19).trans ((zx_iret zh_L_setCost_20 (by first | rfl | decide)))
-- L_example
theorem zh_L_example_0 : zfe zqL_example.i 0 = some (0, .aload_n 2, 1, 0, 0, 0) := rfl
theorem zh_L_example_1 : zfe zqL_example.i 1 = some (1, .iconst 0, 1, 0, 0, 0) := rfl
theorem zh_L_example_2 : zfe zqL_example.i 2 = some (2, .aload_n 0, 1, 0, 0, 0) := rfl
theorem zh_L_example_3 : zfe zqL_example.i 3 = some (3, .iload_n 1, 1, 0, 0, 0) := rfl
theorem zh_L_example_4 : zfe zqL_example.i 4 = some (4, .invokevirtual 31, 3, 83, 2, 8) := rfl
theorem zh_L_example_7 : zfe zqL_example.i 7 = some (7, .lastore, 1, 0, 0, 0) := rfl
theorem zh_L_example_8 : zfe zqL_example.i 8 = some (8, .goto 6, 3, 0, 0, 0) := rfl
theorem zh_L_example_12 : zfe zqL_example.i 12 = some (12, .iconst 1, 1, 0, 0, 0) := rfl
theorem zh_L_example_13 : zfe zqL_example.i 13 = some (13, .ireturn, 1, 0, 0, 0) := rfl
theorem zh_L_example_14 : zfe zqL_example.i 14 = some (14, .iconst 0, 1, 0, 0, 0) := rfl
theorem zh_L_example_15 : zfe zqL_example.i 15 = some (15, .ireturn, 1, 0, 0, 0) := rfl
theorem ze_L_example_0 {d : Nat} {f : zF} {m : zM} {x0 x2 : Nat} {x1 : Int32} {a3 : Value} : zex zTb d zqL_example 0 [.ref x0, .int x1, .ref x2, a3] [] f m = if zisc (f x0) 8 = true then zcal zTb (zrun zTb d 83 [.ref x0, .int x1] f m) d zqL_example 4 7 [.ref x0, .int x1, .ref x2, a3] [.int (I 0), .ref x2] else none := (zxl_go (x := (1, [.ref x0, .int x1, .ref x2, a3], [.ref x2], f, m)) zh_L_example_0 rfl).trans ((zx_iconst zh_L_example_1).trans ((zxl_go (x := (3, [.ref x0, .int x1, .ref x2, a3], [.ref x0, .int (I 0), .ref x2], f, m)) zh_L_example_2 rfl).trans ((zxl_go (x := (4, [.ref x0, .int x1, .ref x2, a3], [.int x1, .ref x0, .int (I 0), .ref x2], f, m)) zh_L_example_3 rfl).trans ((zx_virtual4 zh_L_example_4 (Nat.le_of_ble_eq_true rfl) rfl rfl (Nat.le_of_ble_eq_true rfl))))))
theorem ze_L_example_7 {d : Nat} {f : zF} {m : zM} {a0 a1 a2 a3 : Value} {y0 : Nat} {y1 : Int32} {y2 : Int64} : zex zTb d zqL_example 7 [a0, a1, a2, a3] [.long y2, .int y1, .ref y0] f m = if zrl (f y0) y1 = true then zex zTb d zqL_example 8 [a0, a1, a2, a3] [] (zup f y0 (zwl (f y0) y1.toNatClampNeg y2)) m else none := (zx_lastore zh_L_example_7)
theorem ze_L_example_8 {d : Nat} {f : zF} {m : zM} {a0 a1 a2 a3 : Value} : zex zTb d zqL_example 8 [a0, a1, a2, a3] [] f m = some (.inl (some (.int (I 0))), f, m) := (zx_goto zh_L_example_8 rfl).trans ((zx_iconst zh_L_example_14).trans ((zx_iret zh_L_example_15 (by first | rfl | decide))))
theorem ze_L_example_12 {d : Nat} {f : zF} {m : zM} {a0 a1 a2 a3 : Value} : zex zTb d zqL_example 12 [a0, a1, a2, a3] [] f m = some (.inl (some (.int (I 1))), f, m) := (zx_iconst zh_L_example_12).trans ((zx_iret zh_L_example_13 (by first | rfl | decide)))
-- L_isGood
theorem zh_L_isGood_0 : zfe zqL_isGood.i 0 = some (0, .aload_n 2, 1, 0, 0, 0) := rfl
theorem zh_L_isGood_1 : zfe zqL_isGood.i 1 = some (1, .iconst 0, 1, 0, 0, 0) := rfl
theorem zh_L_isGood_2 : zfe zqL_isGood.i 2 = some (2, .aload_n 0, 1, 0, 0, 0) := rfl
theorem zh_L_isGood_3 : zfe zqL_isGood.i 3 = some (3, .iload_n 1, 1, 0, 0, 0) := rfl
theorem zh_L_isGood_4 : zfe zqL_isGood.i 4 = some (4, .invokevirtual 35, 3, 84, 2, 8) := rfl
theorem zh_L_isGood_7 : zfe zqL_isGood.i 7 = some (7, .ifCond .eq 7, 3, 0, 0, 0) := rfl
theorem zh_L_isGood_10 : zfe zqL_isGood.i 10 = some (10, .lconst 1, 1, 0, 0, 0) := rfl
theorem zh_L_isGood_11 : zfe zqL_isGood.i 11 = some (11, .goto 4, 3, 0, 0, 0) := rfl
theorem zh_L_isGood_14 : zfe zqL_isGood.i 14 = some (14, .lconst 0, 1, 0, 0, 0) := rfl
theorem zh_L_isGood_15 : zfe zqL_isGood.i 15 = some (15, .lastore, 1, 0, 0, 0) := rfl
theorem zh_L_isGood_16 : zfe zqL_isGood.i 16 = some (16, .goto 6, 3, 0, 0, 0) := rfl
theorem zh_L_isGood_20 : zfe zqL_isGood.i 20 = some (20, .iconst 1, 1, 0, 0, 0) := rfl
theorem zh_L_isGood_21 : zfe zqL_isGood.i 21 = some (21, .ireturn, 1, 0, 0, 0) := rfl
theorem zh_L_isGood_22 : zfe zqL_isGood.i 22 = some (22, .iconst 0, 1, 0, 0, 0) := rfl
theorem zh_L_isGood_23 : zfe zqL_isGood.i 23 = some (23, .ireturn, 1, 0, 0, 0) := rfl
theorem ze_L_isGood_0 {d : Nat} {f : zF} {m : zM} {x0 x2 : Nat} {x1 : Int32} {a3 : Value} : zex zTb d zqL_isGood 0 [.ref x0, .int x1, .ref x2, a3] [] f m = if zisc (f x0) 8 = true then zcal zTb (zrun zTb d 84 [.ref x0, .int x1] f m) d zqL_isGood 4 7 [.ref x0, .int x1, .ref x2, a3] [.int (I 0), .ref x2] else none := (zxl_go (x := (1, [.ref x0, .int x1, .ref x2, a3], [.ref x2], f, m)) zh_L_isGood_0 rfl).trans ((zx_iconst zh_L_isGood_1).trans ((zxl_go (x := (3, [.ref x0, .int x1, .ref x2, a3], [.ref x0, .int (I 0), .ref x2], f, m)) zh_L_isGood_2 rfl).trans ((zxl_go (x := (4, [.ref x0, .int x1, .ref x2, a3], [.int x1, .ref x0, .int (I 0), .ref x2], f, m)) zh_L_isGood_3 rfl).trans ((zx_virtual4 zh_L_isGood_4 (Nat.le_of_ble_eq_true rfl) rfl rfl (Nat.le_of_ble_eq_true rfl))))))
theorem ze_L_isGood_7 {d : Nat} {f : zF} {m : zM} {a0 a1 a2 a3 : Value} {y0 : Nat} {y1 y2 : Int32} : zex zTb d zqL_isGood 7 [a0, a1, a2, a3] [.int y2, .int y1, .ref y0] f m = if zc1 .eq y2 = true then zex zTb d zqL_isGood 14 [a0, a1, a2, a3] [.int y1, .ref y0] f m else zex zTb d zqL_isGood 10 [a0, a1, a2, a3] [.int y1, .ref y0] f m := (zx_if (tgt := 14) zh_L_isGood_7 rfl)
theorem ze_L_isGood_10 {d : Nat} {f : zF} {m : zM} {a0 a1 a2 a3 : Value} {y0 : Nat} {y1 : Int32} : zex zTb d zqL_isGood 10 [a0, a1, a2, a3] [.int y1, .ref y0] f m = if zrl (f y0) y1 = true then zex zTb d zqL_isGood 16 [a0, a1, a2, a3] [] (zup f y0 (zwl (f y0) y1.toNatClampNeg (J 1))) m else none := (zx_lconst (v := 1) zh_L_isGood_10 (by decide)).trans ((zx_goto zh_L_isGood_11 rfl).trans ((zx_lastore zh_L_isGood_15)))
theorem ze_L_isGood_14 {d : Nat} {f : zF} {m : zM} {a0 a1 a2 a3 : Value} {y0 : Nat} {y1 : Int32} : zex zTb d zqL_isGood 14 [a0, a1, a2, a3] [.int y1, .ref y0] f m = if zrl (f y0) y1 = true then zex zTb d zqL_isGood 16 [a0, a1, a2, a3] [] (zup f y0 (zwl (f y0) y1.toNatClampNeg (J 0))) m else none := (zx_lconst (v := 0) zh_L_isGood_14 (by decide)).trans ((zx_lastore zh_L_isGood_15))
theorem ze_L_isGood_16 {d : Nat} {f : zF} {m : zM} {a0 a1 a2 a3 : Value} : zex zTb d zqL_isGood 16 [a0, a1, a2, a3] [] f m = some (.inl (some (.int (I 0))), f, m) := (zx_goto zh_L_isGood_16 rfl).trans ((zx_iconst zh_L_isGood_22).trans ((zx_iret zh_L_isGood_23 (by first | rfl | decide))))
theorem ze_L_isGood_20 {d : Nat} {f : zF} {m : zM} {a0 a1 a2 a3 : Value} : zex zTb d zqL_isGood 20 [a0, a1, a2, a3] [] f m = some (.inl (some (.int (I 1))), f, m) := (zx_iconst zh_L_isGood_20).trans ((zx_iret zh_L_isGood_21 (by first | rfl | decide)))
-- L_piece
theorem zh_L_piece_0 : zfe zqL_piece.i 0 = some (0, .aload_n 2, 1, 0, 0, 0) := rfl
theorem zh_L_piece_1 : zfe zqL_piece.i 1 = some (1, .iconst 0, 1, 0, 0, 0) := rfl
theorem zh_L_piece_2 : zfe zqL_piece.i 2 = some (2, .aload_n 0, 1, 0, 0, 0) := rfl
theorem zh_L_piece_3 : zfe zqL_piece.i 3 = some (3, .iload_n 1, 1, 0, 0, 0) := rfl
theorem zh_L_piece_4 : zfe zqL_piece.i 4 = some (4, .invokevirtual 39, 3, 86, 2, 8) := rfl
theorem zh_L_piece_7 : zfe zqL_piece.i 7 = some (7, .lastore, 1, 0, 0, 0) := rfl
theorem zh_L_piece_8 : zfe zqL_piece.i 8 = some (8, .goto 6, 3, 0, 0, 0) := rfl
theorem zh_L_piece_12 : zfe zqL_piece.i 12 = some (12, .iconst 1, 1, 0, 0, 0) := rfl
theorem zh_L_piece_13 : zfe zqL_piece.i 13 = some (13, .ireturn, 1, 0, 0, 0) := rfl
theorem zh_L_piece_14 : zfe zqL_piece.i 14 = some (14, .iconst 0, 1, 0, 0, 0) := rfl
theorem zh_L_piece_15 : zfe zqL_piece.i 15 = some (15, .ireturn, 1, 0, 0, 0) := rfl
theorem ze_L_piece_0 {d : Nat} {f : zF} {m : zM} {x0 x2 : Nat} {x1 : Int32} {a3 : Value} : zex zTb d zqL_piece 0 [.ref x0, .int x1, .ref x2, a3] [] f m = if zisc (f x0) 8 = true then zcal zTb (zrun zTb d 86 [.ref x0, .int x1] f m) d zqL_piece 4 7 [.ref x0, .int x1, .ref x2, a3] [.int (I 0), .ref x2] else none := (zxl_go (x := (1, [.ref x0, .int x1, .ref x2, a3], [.ref x2], f, m)) zh_L_piece_0 rfl).trans ((zx_iconst zh_L_piece_1).trans ((zxl_go (x := (3, [.ref x0, .int x1, .ref x2, a3], [.ref x0, .int (I 0), .ref x2], f, m)) zh_L_piece_2 rfl).trans ((zxl_go (x := (4, [.ref x0, .int x1, .ref x2, a3], [.int x1, .ref x0, .int (I 0), .ref x2], f, m)) zh_L_piece_3 rfl).trans ((zx_virtual4 zh_L_piece_4 (Nat.le_of_ble_eq_true rfl) rfl rfl (Nat.le_of_ble_eq_true rfl))))))
theorem ze_L_piece_7 {d : Nat} {f : zF} {m : zM} {a0 a1 a2 a3 : Value} {y0 : Nat} {y1 : Int32} {y2 : Int64} : zex zTb d zqL_piece 7 [a0, a1, a2, a3] [.long y2, .int y1, .ref y0] f m = if zrl (f y0) y1 = true then zex zTb d zqL_piece 8 [a0, a1, a2, a3] [] (zup f y0 (zwl (f y0) y1.toNatClampNeg y2)) m else none := (zx_lastore zh_L_piece_7)
theorem ze_L_piece_8 {d : Nat} {f : zF} {m : zM} {a0 a1 a2 a3 : Value} : zex zTb d zqL_piece 8 [a0, a1, a2, a3] [] f m = some (.inl (some (.int (I 0))), f, m) := (zx_goto zh_L_piece_8 rfl).trans ((zx_iconst zh_L_piece_14).trans ((zx_iret zh_L_piece_15 (by first | rfl | decide))))
theorem ze_L_piece_12 {d : Nat} {f : zF} {m : zM} {a0 a1 a2 a3 : Value} : zex zTb d zqL_piece 12 [a0, a1, a2, a3] [] f m = some (.inl (some (.int (I 1))), f, m) := (zx_iconst zh_L_piece_12).trans ((zx_iret zh_L_piece_13 (by first | rfl | decide)))
-- L_look
theorem zh_L_look_0 : zfe zqL_look.i 0 = some (0, .aload_n 2, 1, 0, 0, 0) := rfl
theorem zh_L_look_1 : zfe zqL_look.i 1 = some (1, .iconst 0, 1, 0, 0, 0) := rfl
theorem zh_L_look_2 : zfe zqL_look.i 2 = some (2, .aload_n 0, 1, 0, 0, 0) := rfl
theorem zh_L_look_3 : zfe zqL_look.i 3 = some (3, .iload_n 1, 1, 0, 0, 0) := rfl
theorem zh_L_look_4 : zfe zqL_look.i 4 = some (4, .invokevirtual 42, 3, 87, 2, 8) := rfl
theorem zh_L_look_7 : zfe zqL_look.i 7 = some (7, .i2l, 1, 0, 0, 0) := rfl
theorem zh_L_look_8 : zfe zqL_look.i 8 = some (8, .lastore, 1, 0, 0, 0) := rfl
theorem zh_L_look_9 : zfe zqL_look.i 9 = some (9, .goto 6, 3, 0, 0, 0) := rfl
theorem zh_L_look_13 : zfe zqL_look.i 13 = some (13, .iconst 1, 1, 0, 0, 0) := rfl
theorem zh_L_look_14 : zfe zqL_look.i 14 = some (14, .ireturn, 1, 0, 0, 0) := rfl
theorem zh_L_look_15 : zfe zqL_look.i 15 = some (15, .iconst 0, 1, 0, 0, 0) := rfl
theorem zh_L_look_16 : zfe zqL_look.i 16 = some (16, .ireturn, 1, 0, 0, 0) := rfl
theorem ze_L_look_0 {d : Nat} {f : zF} {m : zM} {x0 x2 : Nat} {x1 : Int32} {a3 : Value} : zex zTb d zqL_look 0 [.ref x0, .int x1, .ref x2, a3] [] f m = if zisc (f x0) 8 = true then zcal zTb (zrun zTb d 87 [.ref x0, .int x1] f m) d zqL_look 4 7 [.ref x0, .int x1, .ref x2, a3] [.int (I 0), .ref x2] else none := (zxl_go (x := (1, [.ref x0, .int x1, .ref x2, a3], [.ref x2], f, m)) zh_L_look_0 rfl).trans ((zx_iconst zh_L_look_1).trans ((zxl_go (x := (3, [.ref x0, .int x1, .ref x2, a3], [.ref x0, .int (I 0), .ref x2], f, m)) zh_L_look_2 rfl).trans ((zxl_go (x := (4, [.ref x0, .int x1, .ref x2, a3], [.int x1, .ref x0, .int (I 0), .ref x2], f, m)) zh_L_look_3 rfl).trans ((zx_virtual4 zh_L_look_4 (Nat.le_of_ble_eq_true rfl) rfl rfl (Nat.le_of_ble_eq_true rfl))))))
theorem ze_L_look_7 {d : Nat} {f : zF} {m : zM} {a0 a1 a2 a3 : Value} {y0 : Nat} {y1 y2 : Int32} : zex zTb d zqL_look 7 [a0, a1, a2, a3] [.int y2, .int y1, .ref y0] f m = if zrl (f y0) y1 = true then zex zTb d zqL_look 9 [a0, a1, a2, a3] [] (zup f y0 (zwl (f y0) y1.toNatClampNeg (y2.toInt64))) m else none := (zxl_go (x := (8, [a0, a1, a2, a3], [.long (y2.toInt64), .int y1, .ref y0], f, m)) zh_L_look_7 rfl).trans ((zx_lastore zh_L_look_8))
theorem ze_L_look_9 {d : Nat} {f : zF} {m : zM} {a0 a1 a2 a3 : Value} : zex zTb d zqL_look 9 [a0, a1, a2, a3] [] f m = some (.inl (some (.int (I 0))), f, m) := (zx_goto zh_L_look_9 rfl).trans ((zx_iconst zh_L_look_15).trans ((zx_iret zh_L_look_16 (by first | rfl | decide))))
theorem ze_L_look_13 {d : Nat} {f : zF} {m : zM} {a0 a1 a2 a3 : Value} : zex zTb d zqL_look 13 [a0, a1, a2, a3] [] f m = some (.inl (some (.int (I 1))), f, m) := (zx_iconst zh_L_look_13).trans ((zx_iret zh_L_look_14 (by first | rfl | decide)))
-- L_nodeCount
theorem zh_L_nodeCount_0 : zfe zqL_nodeCount.i 0 = some (0, .aload_n 1, 1, 0, 0, 0) := rfl
theorem zh_L_nodeCount_1 : zfe zqL_nodeCount.i 1 = some (1, .iconst 0, 1, 0, 0, 0) := rfl
theorem zh_L_nodeCount_2 : zfe zqL_nodeCount.i 2 = some (2, .aload_n 0, 1, 0, 0, 0) := rfl
theorem zh_L_nodeCount_3 : zfe zqL_nodeCount.i 3 = some (3, .invokevirtual 46, 3, 90, 1, 8) := rfl
theorem zh_L_nodeCount_6 : zfe zqL_nodeCount.i 6 = some (6, .i2l, 1, 0, 0, 0) := rfl
theorem zh_L_nodeCount_7 : zfe zqL_nodeCount.i 7 = some (7, .lastore, 1, 0, 0, 0) := rfl
theorem zh_L_nodeCount_8 : zfe zqL_nodeCount.i 8 = some (8, .goto 6, 3, 0, 0, 0) := rfl
theorem zh_L_nodeCount_12 : zfe zqL_nodeCount.i 12 = some (12, .iconst 1, 1, 0, 0, 0) := rfl
theorem zh_L_nodeCount_13 : zfe zqL_nodeCount.i 13 = some (13, .ireturn, 1, 0, 0, 0) := rfl
theorem zh_L_nodeCount_14 : zfe zqL_nodeCount.i 14 = some (14, .iconst 0, 1, 0, 0, 0) := rfl
theorem zh_L_nodeCount_15 : zfe zqL_nodeCount.i 15 = some (15, .ireturn, 1, 0, 0, 0) := rfl
theorem ze_L_nodeCount_0 {d : Nat} {f : zF} {m : zM} {x0 x1 : Nat} {a2 : Value} : zex zTb d zqL_nodeCount 0 [.ref x0, .ref x1, a2] [] f m = if zisc (f x0) 8 = true then zcal zTb (zrun zTb d 90 [.ref x0] f m) d zqL_nodeCount 3 6 [.ref x0, .ref x1, a2] [.int (I 0), .ref x1] else none := (zxl_go (x := (1, [.ref x0, .ref x1, a2], [.ref x1], f, m)) zh_L_nodeCount_0 rfl).trans ((zx_iconst zh_L_nodeCount_1).trans ((zxl_go (x := (3, [.ref x0, .ref x1, a2], [.ref x0, .int (I 0), .ref x1], f, m)) zh_L_nodeCount_2 rfl).trans ((zx_virtual4 zh_L_nodeCount_3 (Nat.le_of_ble_eq_true rfl) rfl rfl (Nat.le_of_ble_eq_true rfl)))))
theorem ze_L_nodeCount_6 {d : Nat} {f : zF} {m : zM} {a0 a1 a2 : Value} {y0 : Nat} {y1 y2 : Int32} : zex zTb d zqL_nodeCount 6 [a0, a1, a2] [.int y2, .int y1, .ref y0] f m = if zrl (f y0) y1 = true then zex zTb d zqL_nodeCount 8 [a0, a1, a2] [] (zup f y0 (zwl (f y0) y1.toNatClampNeg (y2.toInt64))) m else none := (zxl_go (x := (7, [a0, a1, a2], [.long (y2.toInt64), .int y1, .ref y0], f, m)) zh_L_nodeCount_6 rfl).trans ((zx_lastore zh_L_nodeCount_7))
theorem ze_L_nodeCount_8 {d : Nat} {f : zF} {m : zM} {a0 a1 a2 : Value} : zex zTb d zqL_nodeCount 8 [a0, a1, a2] [] f m = some (.inl (some (.int (I 0))), f, m) := (zx_goto zh_L_nodeCount_8 rfl).trans ((zx_iconst zh_L_nodeCount_14).trans ((zx_iret zh_L_nodeCount_15 (by first | rfl | decide))))
theorem ze_L_nodeCount_12 {d : Nat} {f : zF} {m : zM} {a0 a1 a2 : Value} : zex zTb d zqL_nodeCount 12 [a0, a1, a2] [] f m = some (.inl (some (.int (I 1))), f, m) := (zx_iconst zh_L_nodeCount_12).trans ((zx_iret zh_L_nodeCount_13 (by first | rfl | decide)))
-- L_kind
theorem zh_L_kind_0 : zfe zqL_kind.i 0 = some (0, .aload_n 2, 1, 0, 0, 0) := rfl
theorem zh_L_kind_1 : zfe zqL_kind.i 1 = some (1, .iconst 0, 1, 0, 0, 0) := rfl
theorem zh_L_kind_2 : zfe zqL_kind.i 2 = some (2, .aload_n 0, 1, 0, 0, 0) := rfl
theorem zh_L_kind_3 : zfe zqL_kind.i 3 = some (3, .iload_n 1, 1, 0, 0, 0) := rfl
theorem zh_L_kind_4 : zfe zqL_kind.i 4 = some (4, .invokevirtual 49, 3, 91, 2, 8) := rfl
theorem zh_L_kind_7 : zfe zqL_kind.i 7 = some (7, .i2l, 1, 0, 0, 0) := rfl
theorem zh_L_kind_8 : zfe zqL_kind.i 8 = some (8, .lastore, 1, 0, 0, 0) := rfl
theorem zh_L_kind_9 : zfe zqL_kind.i 9 = some (9, .goto 9, 3, 0, 0, 0) := rfl
theorem zh_L_kind_13 : zfe zqL_kind.i 13 = some (13, .iconst 1, 1, 0, 0, 0) := rfl
theorem zh_L_kind_14 : zfe zqL_kind.i 14 = some (14, .ireturn, 1, 0, 0, 0) := rfl
theorem zh_L_kind_16 : zfe zqL_kind.i 16 = some (16, .iconst 2, 1, 0, 0, 0) := rfl
theorem zh_L_kind_17 : zfe zqL_kind.i 17 = some (17, .ireturn, 1, 0, 0, 0) := rfl
theorem zh_L_kind_18 : zfe zqL_kind.i 18 = some (18, .iconst 0, 1, 0, 0, 0) := rfl
theorem zh_L_kind_19 : zfe zqL_kind.i 19 = some (19, .ireturn, 1, 0, 0, 0) := rfl
theorem ze_L_kind_0 {d : Nat} {f : zF} {m : zM} {x0 x2 : Nat} {x1 : Int32} {a3 : Value} : zex zTb d zqL_kind 0 [.ref x0, .int x1, .ref x2, a3] [] f m = if zisc (f x0) 8 = true then zcal zTb (zrun zTb d 91 [.ref x0, .int x1] f m) d zqL_kind 4 7 [.ref x0, .int x1, .ref x2, a3] [.int (I 0), .ref x2] else none := (zxl_go (x := (1, [.ref x0, .int x1, .ref x2, a3], [.ref x2], f, m)) zh_L_kind_0 rfl).trans ((zx_iconst zh_L_kind_1).trans ((zxl_go (x := (3, [.ref x0, .int x1, .ref x2, a3], [.ref x0, .int (I 0), .ref x2], f, m)) zh_L_kind_2 rfl).trans ((zxl_go (x := (4, [.ref x0, .int x1, .ref x2, a3], [.int x1, .ref x0, .int (I 0), .ref x2], f, m)) zh_L_kind_3 rfl).trans ((zx_virtual4 zh_L_kind_4 (Nat.le_of_ble_eq_true rfl) rfl rfl (Nat.le_of_ble_eq_true rfl))))))
theorem ze_L_kind_7 {d : Nat} {f : zF} {m : zM} {a0 a1 a2 a3 : Value} {y0 : Nat} {y1 y2 : Int32} : zex zTb d zqL_kind 7 [a0, a1, a2, a3] [.int y2, .int y1, .ref y0] f m = if zrl (f y0) y1 = true then zex zTb d zqL_kind 9 [a0, a1, a2, a3] [] (zup f y0 (zwl (f y0) y1.toNatClampNeg (y2.toInt64))) m else none := (zxl_go (x := (8, [a0, a1, a2, a3], [.long (y2.toInt64), .int y1, .ref y0], f, m)) zh_L_kind_7 rfl).trans ((zx_lastore zh_L_kind_8))
theorem ze_L_kind_9 {d : Nat} {f : zF} {m : zM} {a0 a1 a2 a3 : Value} : zex zTb d zqL_kind 9 [a0, a1, a2, a3] [] f m = some (.inl (some (.int (I 0))), f, m) := (zx_goto zh_L_kind_9 rfl).trans ((zx_iconst zh_L_kind_18).trans ((zx_iret zh_L_kind_19 (by first | rfl | decide))))
theorem ze_L_kind_13 {d : Nat} {f : zF} {m : zM} {a0 a1 a2 a3 : Value} : zex zTb d zqL_kind 13 [a0, a1, a2, a3] [] f m = some (.inl (some (.int (I 1))), f, m) := (zx_iconst zh_L_kind_13).trans ((zx_iret zh_L_kind_14 (by first | rfl | decide)))
theorem ze_L_kind_16 {d : Nat} {f : zF} {m : zM} {a0 a1 a2 a3 : Value} : zex zTb d zqL_kind 16 [a0, a1, a2, a3] [] f m = some (.inl (some (.int (I 2))), f, m) := (zx_iconst zh_L_kind_16).trans ((zx_iret zh_L_kind_17 (by first | rfl | decide)))
-- L_part
theorem zh_L_part_0 : zfe zqL_part.i 0 = some (0, .aload_n 3, 1, 0, 0, 0) := rfl
theorem zh_L_part_1 : zfe zqL_part.i 1 = some (1, .iconst 0, 1, 0, 0, 0) := rfl
theorem zh_L_part_2 : zfe zqL_part.i 2 = some (2, .aload_n 0, 1, 0, 0, 0) := rfl
theorem zh_L_part_3 : zfe zqL_part.i 3 = some (3, .iload_n 1, 1, 0, 0, 0) := rfl
theorem zh_L_part_4 : zfe zqL_part.i 4 = some (4, .iload_n 2, 1, 0, 0, 0) := rfl
theorem zh_L_part_5 : zfe zqL_part.i 5 = some (5, .invokevirtual 52, 3, 92, 3, 8) := rfl
theorem zh_L_part_8 : zfe zqL_part.i 8 = some (8, .i2l, 1, 0, 0, 0) := rfl
theorem zh_L_part_9 : zfe zqL_part.i 9 = some (9, .lastore, 1, 0, 0, 0) := rfl
theorem zh_L_part_10 : zfe zqL_part.i 10 = some (10, .goto 11, 3, 0, 0, 0) := rfl
theorem zh_L_part_15 : zfe zqL_part.i 15 = some (15, .iconst 1, 1, 0, 0, 0) := rfl
theorem zh_L_part_16 : zfe zqL_part.i 16 = some (16, .ireturn, 1, 0, 0, 0) := rfl
theorem zh_L_part_19 : zfe zqL_part.i 19 = some (19, .iconst 2, 1, 0, 0, 0) := rfl
theorem zh_L_part_20 : zfe zqL_part.i 20 = some (20, .ireturn, 1, 0, 0, 0) := rfl
theorem zh_L_part_21 : zfe zqL_part.i 21 = some (21, .iconst 0, 1, 0, 0, 0) := rfl
theorem zh_L_part_22 : zfe zqL_part.i 22 = some (22, .ireturn, 1, 0, 0, 0) := rfl
theorem ze_L_part_0 {d : Nat} {f : zF} {m : zM} {x0 x3 : Nat} {x1 x2 : Int32} {a4 : Value} : zex zTb d zqL_part 0 [.ref x0, .int x1, .int x2, .ref x3, a4] [] f m = if zisc (f x0) 8 = true then zcal zTb (zrun zTb d 92 [.ref x0, .int x1, .int x2] f m) d zqL_part 5 8 [.ref x0, .int x1, .int x2, .ref x3, a4] [.int (I 0), .ref x3] else none := (zxl_go (x := (1, [.ref x0, .int x1, .int x2, .ref x3, a4], [.ref x3], f, m)) zh_L_part_0 rfl).trans ((zx_iconst zh_L_part_1).trans ((zxl_go (x := (3, [.ref x0, .int x1, .int x2, .ref x3, a4], [.ref x0, .int (I 0), .ref x3], f, m)) zh_L_part_2 rfl).trans ((zxl_go (x := (4, [.ref x0, .int x1, .int x2, .ref x3, a4], [.int x1, .ref x0, .int (I 0), .ref x3], f, m)) zh_L_part_3 rfl).trans ((zxl_go (x := (5, [.ref x0, .int x1, .int x2, .ref x3, a4], [.int x2, .int x1, .ref x0, .int (I 0), .ref x3], f, m)) zh_L_part_4 rfl).trans ((zx_virtual4 zh_L_part_5 (Nat.le_of_ble_eq_true rfl) rfl rfl (Nat.le_of_ble_eq_true rfl)))))))
theorem ze_L_part_8 {d : Nat} {f : zF} {m : zM} {a0 a1 a2 a3 a4 : Value} {y0 : Nat} {y1 y2 : Int32} : zex zTb d zqL_part 8 [a0, a1, a2, a3, a4] [.int y2, .int y1, .ref y0] f m = if zrl (f y0) y1 = true then zex zTb d zqL_part 10 [a0, a1, a2, a3, a4] [] (zup f y0 (zwl (f y0) y1.toNatClampNeg (y2.toInt64))) m else none := (zxl_go (x := (9, [a0, a1, a2, a3, a4], [.long (y2.toInt64), .int y1, .ref y0], f, m)) zh_L_part_8 rfl).trans ((zx_lastore zh_L_part_9))
theorem ze_L_part_10 {d : Nat} {f : zF} {m : zM} {a0 a1 a2 a3 a4 : Value} : zex zTb d zqL_part 10 [a0, a1, a2, a3, a4] [] f m = some (.inl (some (.int (I 0))), f, m) := (zx_goto zh_L_part_10 rfl).trans ((zx_iconst zh_L_part_21).trans ((zx_iret zh_L_part_22 (by first | rfl | decide))))
theorem ze_L_part_15 {d : Nat} {f : zF} {m : zM} {a0 a1 a2 a3 a4 : Value} : zex zTb d zqL_part 15 [a0, a1, a2, a3, a4] [] f m = some (.inl (some (.int (I 1))), f, m) := (zx_iconst zh_L_part_15).trans ((zx_iret zh_L_part_16 (by first | rfl | decide)))
theorem ze_L_part_19 {d : Nat} {f : zF} {m : zM} {a0 a1 a2 a3 a4 : Value} : zex zTb d zqL_part 19 [a0, a1, a2, a3, a4] [] f m = some (.inl (some (.int (I 2))), f, m) := (zx_iconst zh_L_part_19).trans ((zx_iret zh_L_part_20 (by first | rfl | decide)))
-- L_textSize
theorem zh_L_textSize_0 : zfe zqL_textSize.i 0 = some (0, .aload_n 1, 1, 0, 0, 0) := rfl
theorem zh_L_textSize_1 : zfe zqL_textSize.i 1 = some (1, .iconst 0, 1, 0, 0, 0) := rfl
theorem zh_L_textSize_2 : zfe zqL_textSize.i 2 = some (2, .aload_n 0, 1, 0, 0, 0) := rfl
theorem zh_L_textSize_3 : zfe zqL_textSize.i 3 = some (3, .invokevirtual 56, 3, 93, 1, 8) := rfl
theorem zh_L_textSize_6 : zfe zqL_textSize.i 6 = some (6, .i2l, 1, 0, 0, 0) := rfl
theorem zh_L_textSize_7 : zfe zqL_textSize.i 7 = some (7, .lastore, 1, 0, 0, 0) := rfl
theorem zh_L_textSize_8 : zfe zqL_textSize.i 8 = some (8, .goto 6, 3, 0, 0, 0) := rfl
theorem zh_L_textSize_12 : zfe zqL_textSize.i 12 = some (12, .iconst 1, 1, 0, 0, 0) := rfl
theorem zh_L_textSize_13 : zfe zqL_textSize.i 13 = some (13, .ireturn, 1, 0, 0, 0) := rfl
theorem zh_L_textSize_14 : zfe zqL_textSize.i 14 = some (14, .iconst 0, 1, 0, 0, 0) := rfl
theorem zh_L_textSize_15 : zfe zqL_textSize.i 15 = some (15, .ireturn, 1, 0, 0, 0) := rfl
theorem ze_L_textSize_0 {d : Nat} {f : zF} {m : zM} {x0 x1 : Nat} {a2 : Value} : zex zTb d zqL_textSize 0 [.ref x0, .ref x1, a2] [] f m = if zisc (f x0) 8 = true then zcal zTb (zrun zTb d 93 [.ref x0] f m) d zqL_textSize 3 6 [.ref x0, .ref x1, a2] [.int (I 0), .ref x1] else none := (zxl_go (x := (1, [.ref x0, .ref x1, a2], [.ref x1], f, m)) zh_L_textSize_0 rfl).trans ((zx_iconst zh_L_textSize_1).trans ((zxl_go (x := (3, [.ref x0, .ref x1, a2], [.ref x0, .int (I 0), .ref x1], f, m)) zh_L_textSize_2 rfl).trans ((zx_virtual4 zh_L_textSize_3 (Nat.le_of_ble_eq_true rfl) rfl rfl (Nat.le_of_ble_eq_true rfl)))))
theorem ze_L_textSize_6 {d : Nat} {f : zF} {m : zM} {a0 a1 a2 : Value} {y0 : Nat} {y1 y2 : Int32} : zex zTb d zqL_textSize 6 [a0, a1, a2] [.int y2, .int y1, .ref y0] f m = if zrl (f y0) y1 = true then zex zTb d zqL_textSize 8 [a0, a1, a2] [] (zup f y0 (zwl (f y0) y1.toNatClampNeg (y2.toInt64))) m else none := (zxl_go (x := (7, [a0, a1, a2], [.long (y2.toInt64), .int y1, .ref y0], f, m)) zh_L_textSize_6 rfl).trans ((zx_lastore zh_L_textSize_7))
theorem ze_L_textSize_8 {d : Nat} {f : zF} {m : zM} {a0 a1 a2 : Value} : zex zTb d zqL_textSize 8 [a0, a1, a2] [] f m = some (.inl (some (.int (I 0))), f, m) := (zx_goto zh_L_textSize_8 rfl).trans ((zx_iconst zh_L_textSize_14).trans ((zx_iret zh_L_textSize_15 (by first | rfl | decide))))
theorem ze_L_textSize_12 {d : Nat} {f : zF} {m : zM} {a0 a1 a2 : Value} : zex zTb d zqL_textSize 12 [a0, a1, a2] [] f m = some (.inl (some (.int (I 1))), f, m) := (zx_iconst zh_L_textSize_12).trans ((zx_iret zh_L_textSize_13 (by first | rfl | decide)))
-- L_text
theorem zh_L_text_0 : zfe zqL_text.i 0 = some (0, .aload_n 2, 1, 0, 0, 0) := rfl
theorem zh_L_text_1 : zfe zqL_text.i 1 = some (1, .iconst 0, 1, 0, 0, 0) := rfl
theorem zh_L_text_2 : zfe zqL_text.i 2 = some (2, .aload_n 0, 1, 0, 0, 0) := rfl
theorem zh_L_text_3 : zfe zqL_text.i 3 = some (3, .iload_n 1, 1, 0, 0, 0) := rfl
theorem zh_L_text_4 : zfe zqL_text.i 4 = some (4, .invokevirtual 59, 3, 94, 2, 8) := rfl
theorem zh_L_text_7 : zfe zqL_text.i 7 = some (7, .i2l, 1, 0, 0, 0) := rfl
theorem zh_L_text_8 : zfe zqL_text.i 8 = some (8, .lastore, 1, 0, 0, 0) := rfl
theorem zh_L_text_9 : zfe zqL_text.i 9 = some (9, .goto 9, 3, 0, 0, 0) := rfl
theorem zh_L_text_13 : zfe zqL_text.i 13 = some (13, .iconst 1, 1, 0, 0, 0) := rfl
theorem zh_L_text_14 : zfe zqL_text.i 14 = some (14, .ireturn, 1, 0, 0, 0) := rfl
theorem zh_L_text_16 : zfe zqL_text.i 16 = some (16, .iconst 2, 1, 0, 0, 0) := rfl
theorem zh_L_text_17 : zfe zqL_text.i 17 = some (17, .ireturn, 1, 0, 0, 0) := rfl
theorem zh_L_text_18 : zfe zqL_text.i 18 = some (18, .iconst 0, 1, 0, 0, 0) := rfl
theorem zh_L_text_19 : zfe zqL_text.i 19 = some (19, .ireturn, 1, 0, 0, 0) := rfl
theorem ze_L_text_0 {d : Nat} {f : zF} {m : zM} {x0 x2 : Nat} {x1 : Int32} {a3 : Value} : zex zTb d zqL_text 0 [.ref x0, .int x1, .ref x2, a3] [] f m = if zisc (f x0) 8 = true then zcal zTb (zrun zTb d 94 [.ref x0, .int x1] f m) d zqL_text 4 7 [.ref x0, .int x1, .ref x2, a3] [.int (I 0), .ref x2] else none := (zxl_go (x := (1, [.ref x0, .int x1, .ref x2, a3], [.ref x2], f, m)) zh_L_text_0 rfl).trans ((zx_iconst zh_L_text_1).trans ((zxl_go (x := (3, [.ref x0, .int x1, .ref x2, a3], [.ref x0, .int (I 0), .ref x2], f, m)) zh_L_text_2 rfl).trans ((zxl_go (x := (4, [.ref x0, .int x1, .ref x2, a3], [.int x1, .ref x0, .int (I 0), .ref x2], f, m)) zh_L_text_3 rfl).trans ((zx_virtual4 zh_L_text_4 (Nat.le_of_ble_eq_true rfl) rfl rfl (Nat.le_of_ble_eq_true rfl))))))
theorem ze_L_text_7 {d : Nat} {f : zF} {m : zM} {a0 a1 a2 a3 : Value} {y0 : Nat} {y1 y2 : Int32} : zex zTb d zqL_text 7 [a0, a1, a2, a3] [.int y2, .int y1, .ref y0] f m = if zrl (f y0) y1 = true then zex zTb d zqL_text 9 [a0, a1, a2, a3] [] (zup f y0 (zwl (f y0) y1.toNatClampNeg (y2.toInt64))) m else none := (zxl_go (x := (8, [a0, a1, a2, a3], [.long (y2.toInt64), .int y1, .ref y0], f, m)) zh_L_text_7 rfl).trans ((zx_lastore zh_L_text_8))
theorem ze_L_text_9 {d : Nat} {f : zF} {m : zM} {a0 a1 a2 a3 : Value} : zex zTb d zqL_text 9 [a0, a1, a2, a3] [] f m = some (.inl (some (.int (I 0))), f, m) := (zx_goto zh_L_text_9 rfl).trans ((zx_iconst zh_L_text_18).trans ((zx_iret zh_L_text_19 (by first | rfl | decide))))
theorem ze_L_text_13 {d : Nat} {f : zF} {m : zM} {a0 a1 a2 a3 : Value} : zex zTb d zqL_text 13 [a0, a1, a2, a3] [] f m = some (.inl (some (.int (I 1))), f, m) := (zx_iconst zh_L_text_13).trans ((zx_iret zh_L_text_14 (by first | rfl | decide)))
theorem ze_L_text_16 {d : Nat} {f : zF} {m : zM} {a0 a1 a2 a3 : Value} : zex zTb d zqL_text 16 [a0, a1, a2, a3] [] f m = some (.inl (some (.int (I 2))), f, m) := (zx_iconst zh_L_text_16).trans ((zx_iret zh_L_text_17 (by first | rfl | decide)))
-- L_matches
theorem zh_L_matches_0 : zfe zqL_matches.i 0 = some (0, .aload_n 3, 1, 0, 0, 0) := rfl
theorem zh_L_matches_1 : zfe zqL_matches.i 1 = some (1, .iconst 0, 1, 0, 0, 0) := rfl
theorem zh_L_matches_2 : zfe zqL_matches.i 2 = some (2, .aload_n 0, 1, 0, 0, 0) := rfl
theorem zh_L_matches_3 : zfe zqL_matches.i 3 = some (3, .lload_n 1, 1, 0, 0, 0) := rfl
theorem zh_L_matches_4 : zfe zqL_matches.i 4 = some (4, .invokevirtual 62, 3, 95, 2, 8) := rfl
theorem zh_L_matches_7 : zfe zqL_matches.i 7 = some (7, .ifCond .eq 7, 3, 0, 0, 0) := rfl
theorem zh_L_matches_10 : zfe zqL_matches.i 10 = some (10, .lconst 1, 1, 0, 0, 0) := rfl
theorem zh_L_matches_11 : zfe zqL_matches.i 11 = some (11, .goto 4, 3, 0, 0, 0) := rfl
theorem zh_L_matches_14 : zfe zqL_matches.i 14 = some (14, .lconst 0, 1, 0, 0, 0) := rfl
theorem zh_L_matches_15 : zfe zqL_matches.i 15 = some (15, .lastore, 1, 0, 0, 0) := rfl
theorem zh_L_matches_16 : zfe zqL_matches.i 16 = some (16, .goto 11, 3, 0, 0, 0) := rfl
theorem zh_L_matches_21 : zfe zqL_matches.i 21 = some (21, .iconst 1, 1, 0, 0, 0) := rfl
theorem zh_L_matches_22 : zfe zqL_matches.i 22 = some (22, .ireturn, 1, 0, 0, 0) := rfl
theorem zh_L_matches_25 : zfe zqL_matches.i 25 = some (25, .iconst 2, 1, 0, 0, 0) := rfl
theorem zh_L_matches_26 : zfe zqL_matches.i 26 = some (26, .ireturn, 1, 0, 0, 0) := rfl
theorem zh_L_matches_27 : zfe zqL_matches.i 27 = some (27, .iconst 0, 1, 0, 0, 0) := rfl
theorem zh_L_matches_28 : zfe zqL_matches.i 28 = some (28, .ireturn, 1, 0, 0, 0) := rfl
theorem ze_L_matches_0 {d : Nat} {f : zF} {m : zM} {x0 x3 : Nat} {x1 : Int64} {a2 a4 : Value} : zex zTb d zqL_matches 0 [.ref x0, .long x1, a2, .ref x3, a4] [] f m = if zisc (f x0) 8 = true then zcal zTb (zrun zTb d 95 [.ref x0, .long x1] f m) d zqL_matches 4 7 [.ref x0, .long x1, a2, .ref x3, a4] [.int (I 0), .ref x3] else none := (zxl_go (x := (1, [.ref x0, .long x1, a2, .ref x3, a4], [.ref x3], f, m)) zh_L_matches_0 rfl).trans ((zx_iconst zh_L_matches_1).trans ((zxl_go (x := (3, [.ref x0, .long x1, a2, .ref x3, a4], [.ref x0, .int (I 0), .ref x3], f, m)) zh_L_matches_2 rfl).trans ((zxl_go (x := (4, [.ref x0, .long x1, a2, .ref x3, a4], [.long x1, .ref x0, .int (I 0), .ref x3], f, m)) zh_L_matches_3 rfl).trans ((zx_virtual4 zh_L_matches_4 (Nat.le_of_ble_eq_true rfl) rfl rfl (Nat.le_of_ble_eq_true rfl))))))
theorem ze_L_matches_7 {d : Nat} {f : zF} {m : zM} {a0 a1 a2 a3 a4 : Value} {y0 : Nat} {y1 y2 : Int32} : zex zTb d zqL_matches 7 [a0, a1, a2, a3, a4] [.int y2, .int y1, .ref y0] f m = if zc1 .eq y2 = true then zex zTb d zqL_matches 14 [a0, a1, a2, a3, a4] [.int y1, .ref y0] f m else zex zTb d zqL_matches 10 [a0, a1, a2, a3, a4] [.int y1, .ref y0] f m := (zx_if (tgt := 14) zh_L_matches_7 rfl)
theorem ze_L_matches_10 {d : Nat} {f : zF} {m : zM} {a0 a1 a2 a3 a4 : Value} {y0 : Nat} {y1 : Int32} : zex zTb d zqL_matches 10 [a0, a1, a2, a3, a4] [.int y1, .ref y0] f m = if zrl (f y0) y1 = true then zex zTb d zqL_matches 16 [a0, a1, a2, a3, a4] [] (zup f y0 (zwl (f y0) y1.toNatClampNeg (J 1))) m else none := (zx_lconst (v := 1) zh_L_matches_10 (by decide)).trans ((zx_goto zh_L_matches_11 rfl).trans ((zx_lastore zh_L_matches_15)))
theorem ze_L_matches_14 {d : Nat} {f : zF} {m : zM} {a0 a1 a2 a3 a4 : Value} {y0 : Nat} {y1 : Int32} : zex zTb d zqL_matches 14 [a0, a1, a2, a3, a4] [.int y1, .ref y0] f m = if zrl (f y0) y1 = true then zex zTb d zqL_matches 16 [a0, a1, a2, a3, a4] [] (zup f y0 (zwl (f y0) y1.toNatClampNeg (J 0))) m else none := (zx_lconst (v := 0) zh_L_matches_14 (by decide)).trans ((zx_lastore zh_L_matches_15))
theorem ze_L_matches_16 {d : Nat} {f : zF} {m : zM} {a0 a1 a2 a3 a4 : Value} : zex zTb d zqL_matches 16 [a0, a1, a2, a3, a4] [] f m = some (.inl (some (.int (I 0))), f, m) := (zx_goto zh_L_matches_16 rfl).trans ((zx_iconst zh_L_matches_27).trans ((zx_iret zh_L_matches_28 (by first | rfl | decide))))
theorem ze_L_matches_21 {d : Nat} {f : zF} {m : zM} {a0 a1 a2 a3 a4 : Value} : zex zTb d zqL_matches 21 [a0, a1, a2, a3, a4] [] f m = some (.inl (some (.int (I 1))), f, m) := (zx_iconst zh_L_matches_21).trans ((zx_iret zh_L_matches_22 (by first | rfl | decide)))
theorem ze_L_matches_25 {d : Nat} {f : zF} {m : zM} {a0 a1 a2 a3 a4 : Value} : zex zTb d zqL_matches 25 [a0, a1, a2, a3, a4] [] f m = some (.inl (some (.int (I 2))), f, m) := (zx_iconst zh_L_matches_25).trans ((zx_iret zh_L_matches_26 (by first | rfl | decide)))
-- L_count
theorem zh_L_count_0 : zfe zqL_count.i 0 = some (0, .aload_n 2, 1, 0, 0, 0) := rfl
theorem zh_L_count_1 : zfe zqL_count.i 1 = some (1, .iconst 0, 1, 0, 0, 0) := rfl
theorem zh_L_count_2 : zfe zqL_count.i 2 = some (2, .aload_n 0, 1, 0, 0, 0) := rfl
theorem zh_L_count_3 : zfe zqL_count.i 3 = some (3, .iload_n 1, 1, 0, 0, 0) := rfl
theorem zh_L_count_4 : zfe zqL_count.i 4 = some (4, .invokevirtual 66, 3, 96, 2, 8) := rfl
theorem zh_L_count_7 : zfe zqL_count.i 7 = some (7, .i2l, 1, 0, 0, 0) := rfl
theorem zh_L_count_8 : zfe zqL_count.i 8 = some (8, .lastore, 1, 0, 0, 0) := rfl
theorem zh_L_count_9 : zfe zqL_count.i 9 = some (9, .goto 9, 3, 0, 0, 0) := rfl
theorem zh_L_count_13 : zfe zqL_count.i 13 = some (13, .iconst 1, 1, 0, 0, 0) := rfl
theorem zh_L_count_14 : zfe zqL_count.i 14 = some (14, .ireturn, 1, 0, 0, 0) := rfl
theorem zh_L_count_16 : zfe zqL_count.i 16 = some (16, .iconst 2, 1, 0, 0, 0) := rfl
theorem zh_L_count_17 : zfe zqL_count.i 17 = some (17, .ireturn, 1, 0, 0, 0) := rfl
theorem zh_L_count_18 : zfe zqL_count.i 18 = some (18, .iconst 0, 1, 0, 0, 0) := rfl
theorem zh_L_count_19 : zfe zqL_count.i 19 = some (19, .ireturn, 1, 0, 0, 0) := rfl
theorem ze_L_count_0 {d : Nat} {f : zF} {m : zM} {x0 x2 : Nat} {x1 : Int32} {a3 : Value} : zex zTb d zqL_count 0 [.ref x0, .int x1, .ref x2, a3] [] f m = if zisc (f x0) 8 = true then zcal zTb (zrun zTb d 96 [.ref x0, .int x1] f m) d zqL_count 4 7 [.ref x0, .int x1, .ref x2, a3] [.int (I 0), .ref x2] else none := (zxl_go (x := (1, [.ref x0, .int x1, .ref x2, a3], [.ref x2], f, m)) zh_L_count_0 rfl).trans ((zx_iconst zh_L_count_1).trans ((zxl_go (x := (3, [.ref x0, .int x1, .ref x2, a3], [.ref x0, .int (I 0), .ref x2], f, m)) zh_L_count_2 rfl).trans ((zxl_go (x := (4, [.ref x0, .int x1, .ref x2, a3], [.int x1, .ref x0, .int (I 0), .ref x2], f, m)) zh_L_count_3 rfl).trans ((zx_virtual4 zh_L_count_4 (Nat.le_of_ble_eq_true rfl) rfl rfl (Nat.le_of_ble_eq_true rfl))))))
theorem ze_L_count_7 {d : Nat} {f : zF} {m : zM} {a0 a1 a2 a3 : Value} {y0 : Nat} {y1 y2 : Int32} : zex zTb d zqL_count 7 [a0, a1, a2, a3] [.int y2, .int y1, .ref y0] f m = if zrl (f y0) y1 = true then zex zTb d zqL_count 9 [a0, a1, a2, a3] [] (zup f y0 (zwl (f y0) y1.toNatClampNeg (y2.toInt64))) m else none := (zxl_go (x := (8, [a0, a1, a2, a3], [.long (y2.toInt64), .int y1, .ref y0], f, m)) zh_L_count_7 rfl).trans ((zx_lastore zh_L_count_8))
theorem ze_L_count_9 {d : Nat} {f : zF} {m : zM} {a0 a1 a2 a3 : Value} : zex zTb d zqL_count 9 [a0, a1, a2, a3] [] f m = some (.inl (some (.int (I 0))), f, m) := (zx_goto zh_L_count_9 rfl).trans ((zx_iconst zh_L_count_18).trans ((zx_iret zh_L_count_19 (by first | rfl | decide))))
theorem ze_L_count_13 {d : Nat} {f : zF} {m : zM} {a0 a1 a2 a3 : Value} : zex zTb d zqL_count 13 [a0, a1, a2, a3] [] f m = some (.inl (some (.int (I 1))), f, m) := (zx_iconst zh_L_count_13).trans ((zx_iret zh_L_count_14 (by first | rfl | decide)))
theorem ze_L_count_16 {d : Nat} {f : zF} {m : zM} {a0 a1 a2 a3 : Value} : zex zTb d zqL_count 16 [a0, a1, a2, a3] [] f m = some (.inl (some (.int (I 2))), f, m) := (zx_iconst zh_L_count_16).trans ((zx_iret zh_L_count_17 (by first | rfl | decide)))
-- L_first
theorem zh_L_first_0 : zfe zqL_first.i 0 = some (0, .aload_n 1, 1, 0, 0, 0) := rfl
theorem zh_L_first_1 : zfe zqL_first.i 1 = some (1, .iconst 0, 1, 0, 0, 0) := rfl
theorem zh_L_first_2 : zfe zqL_first.i 2 = some (2, .aload_n 0, 1, 0, 0, 0) := rfl
theorem zh_L_first_3 : zfe zqL_first.i 3 = some (3, .invokevirtual 69, 3, 97, 1, 8) := rfl
theorem zh_L_first_6 : zfe zqL_first.i 6 = some (6, .lastore, 1, 0, 0, 0) := rfl
theorem zh_L_first_7 : zfe zqL_first.i 7 = some (7, .goto 6, 3, 0, 0, 0) := rfl
theorem zh_L_first_11 : zfe zqL_first.i 11 = some (11, .iconst 1, 1, 0, 0, 0) := rfl
theorem zh_L_first_12 : zfe zqL_first.i 12 = some (12, .ireturn, 1, 0, 0, 0) := rfl
theorem zh_L_first_13 : zfe zqL_first.i 13 = some (13, .iconst 0, 1, 0, 0, 0) := rfl
theorem zh_L_first_14 : zfe zqL_first.i 14 = some (14, .ireturn, 1, 0, 0, 0) := rfl
theorem ze_L_first_0 {d : Nat} {f : zF} {m : zM} {x0 x1 : Nat} {a2 : Value} : zex zTb d zqL_first 0 [.ref x0, .ref x1, a2] [] f m = if zisc (f x0) 8 = true then zcal zTb (zrun zTb d 97 [.ref x0] f m) d zqL_first 3 6 [.ref x0, .ref x1, a2] [.int (I 0), .ref x1] else none := (zxl_go (x := (1, [.ref x0, .ref x1, a2], [.ref x1], f, m)) zh_L_first_0 rfl).trans ((zx_iconst zh_L_first_1).trans ((zxl_go (x := (3, [.ref x0, .ref x1, a2], [.ref x0, .int (I 0), .ref x1], f, m)) zh_L_first_2 rfl).trans ((zx_virtual4 zh_L_first_3 (Nat.le_of_ble_eq_true rfl) rfl rfl (Nat.le_of_ble_eq_true rfl)))))
theorem ze_L_first_6 {d : Nat} {f : zF} {m : zM} {a0 a1 a2 : Value} {y0 : Nat} {y1 : Int32} {y2 : Int64} : zex zTb d zqL_first 6 [a0, a1, a2] [.long y2, .int y1, .ref y0] f m = if zrl (f y0) y1 = true then zex zTb d zqL_first 7 [a0, a1, a2] [] (zup f y0 (zwl (f y0) y1.toNatClampNeg y2)) m else none := (zx_lastore zh_L_first_6)
theorem ze_L_first_7 {d : Nat} {f : zF} {m : zM} {a0 a1 a2 : Value} : zex zTb d zqL_first 7 [a0, a1, a2] [] f m = some (.inl (some (.int (I 0))), f, m) := (zx_goto zh_L_first_7 rfl).trans ((zx_iconst zh_L_first_13).trans ((zx_iret zh_L_first_14 (by first | rfl | decide))))
theorem ze_L_first_11 {d : Nat} {f : zF} {m : zM} {a0 a1 a2 : Value} : zex zTb d zqL_first 11 [a0, a1, a2] [] f m = some (.inl (some (.int (I 1))), f, m) := (zx_iconst zh_L_first_11).trans ((zx_iret zh_L_first_12 (by first | rfl | decide)))
-- L_share
theorem zh_L_share_0 : zfe zqL_share.i 0 = some (0, .aload_n 1, 1, 0, 0, 0) := rfl
theorem zh_L_share_1 : zfe zqL_share.i 1 = some (1, .iconst 0, 1, 0, 0, 0) := rfl
theorem zh_L_share_2 : zfe zqL_share.i 2 = some (2, .aload_n 0, 1, 0, 0, 0) := rfl
theorem zh_L_share_3 : zfe zqL_share.i 3 = some (3, .invokevirtual 73, 3, 98, 1, 8) := rfl
theorem zh_L_share_6 : zfe zqL_share.i 6 = some (6, .dastore, 1, 0, 0, 0) := rfl
theorem zh_L_share_7 : zfe zqL_share.i 7 = some (7, .goto 6, 3, 0, 0, 0) := rfl
theorem zh_L_share_11 : zfe zqL_share.i 11 = some (11, .iconst 1, 1, 0, 0, 0) := rfl
theorem zh_L_share_12 : zfe zqL_share.i 12 = some (12, .ireturn, 1, 0, 0, 0) := rfl
theorem zh_L_share_13 : zfe zqL_share.i 13 = some (13, .iconst 0, 1, 0, 0, 0) := rfl
theorem zh_L_share_14 : zfe zqL_share.i 14 = some (14, .ireturn, 1, 0, 0, 0) := rfl
theorem ze_L_share_0 {d : Nat} {f : zF} {m : zM} {x0 x1 : Nat} {a2 : Value} : zex zTb d zqL_share 0 [.ref x0, .ref x1, a2] [] f m = if zisc (f x0) 8 = true then zcal zTb (zrun zTb d 98 [.ref x0] f m) d zqL_share 3 6 [.ref x0, .ref x1, a2] [.int (I 0), .ref x1] else none := (zxl_go (x := (1, [.ref x0, .ref x1, a2], [.ref x1], f, m)) zh_L_share_0 rfl).trans ((zx_iconst zh_L_share_1).trans ((zxl_go (x := (3, [.ref x0, .ref x1, a2], [.ref x0, .int (I 0), .ref x1], f, m)) zh_L_share_2 rfl).trans ((zx_virtual4 zh_L_share_3 (Nat.le_of_ble_eq_true rfl) rfl rfl (Nat.le_of_ble_eq_true rfl)))))
theorem ze_L_share_6 {d : Nat} {f : zF} {m : zM} {a0 a1 a2 : Value} {y0 : Nat} {y1 : Int32} {y2 : UInt64} : zex zTb d zqL_share 6 [a0, a1, a2] [.double y2, .int y1, .ref y0] f m = if zrd (f y0) y1 = true then zex zTb d zqL_share 7 [a0, a1, a2] [] (zup f y0 (zwd (f y0) y1.toNatClampNeg y2)) m else none := (zx_dastore zh_L_share_6)
theorem ze_L_share_7 {d : Nat} {f : zF} {m : zM} {a0 a1 a2 : Value} : zex zTb d zqL_share 7 [a0, a1, a2] [] f m = some (.inl (some (.int (I 0))), f, m) := (zx_goto zh_L_share_7 rfl).trans ((zx_iconst zh_L_share_13).trans ((zx_iret zh_L_share_14 (by first | rfl | decide))))
theorem ze_L_share_11 {d : Nat} {f : zF} {m : zM} {a0 a1 a2 : Value} : zex zTb d zqL_share 11 [a0, a1, a2] [] f m = some (.inl (some (.int (I 1))), f, m) := (zx_iconst zh_L_share_11).trans ((zx_iret zh_L_share_12 (by first | rfl | decide)))
-- L_push
theorem zh_L_push_0 : zfe zqL_push.i 0 = some (0, .aload_n 3, 1, 0, 0, 0) := rfl
theorem zh_L_push_1 : zfe zqL_push.i 1 = some (1, .iconst 0, 1, 0, 0, 0) := rfl
theorem zh_L_push_2 : zfe zqL_push.i 2 = some (2, .aload_n 0, 1, 0, 0, 0) := rfl
theorem zh_L_push_3 : zfe zqL_push.i 3 = some (3, .iload_n 1, 1, 0, 0, 0) := rfl
theorem zh_L_push_4 : zfe zqL_push.i 4 = some (4, .iload_n 2, 1, 0, 0, 0) := rfl
theorem zh_L_push_5 : zfe zqL_push.i 5 = some (5, .invokevirtual 77, 3, 102, 3, 8) := rfl
theorem zh_L_push_8 : zfe zqL_push.i 8 = some (8, .i2l, 1, 0, 0, 0) := rfl
theorem zh_L_push_9 : zfe zqL_push.i 9 = some (9, .lastore, 1, 0, 0, 0) := rfl
theorem zh_L_push_10 : zfe zqL_push.i 10 = some (10, .goto 11, 3, 0, 0, 0) := rfl
theorem zh_L_push_15 : zfe zqL_push.i 15 = some (15, .iconst 1, 1, 0, 0, 0) := rfl
theorem zh_L_push_16 : zfe zqL_push.i 16 = some (16, .ireturn, 1, 0, 0, 0) := rfl
theorem zh_L_push_19 : zfe zqL_push.i 19 = some (19, .iconst 2, 1, 0, 0, 0) := rfl
theorem zh_L_push_20 : zfe zqL_push.i 20 = some (20, .ireturn, 1, 0, 0, 0) := rfl
theorem zh_L_push_21 : zfe zqL_push.i 21 = some (21, .iconst 0, 1, 0, 0, 0) := rfl
theorem zh_L_push_22 : zfe zqL_push.i 22 = some (22, .ireturn, 1, 0, 0, 0) := rfl
theorem ze_L_push_0 {d : Nat} {f : zF} {m : zM} {x0 x3 : Nat} {x1 x2 : Int32} {a4 : Value} : zex zTb d zqL_push 0 [.ref x0, .int x1, .int x2, .ref x3, a4] [] f m = if zisc (f x0) 8 = true then zcal zTb (zrun zTb d 102 [.ref x0, .int x1, .int x2] f m) d zqL_push 5 8 [.ref x0, .int x1, .int x2, .ref x3, a4] [.int (I 0), .ref x3] else none := (zxl_go (x := (1, [.ref x0, .int x1, .int x2, .ref x3, a4], [.ref x3], f, m)) zh_L_push_0 rfl).trans ((zx_iconst zh_L_push_1).trans ((zxl_go (x := (3, [.ref x0, .int x1, .int x2, .ref x3, a4], [.ref x0, .int (I 0), .ref x3], f, m)) zh_L_push_2 rfl).trans ((zxl_go (x := (4, [.ref x0, .int x1, .int x2, .ref x3, a4], [.int x1, .ref x0, .int (I 0), .ref x3], f, m)) zh_L_push_3 rfl).trans ((zxl_go (x := (5, [.ref x0, .int x1, .int x2, .ref x3, a4], [.int x2, .int x1, .ref x0, .int (I 0), .ref x3], f, m)) zh_L_push_4 rfl).trans ((zx_virtual4 zh_L_push_5 (Nat.le_of_ble_eq_true rfl) rfl rfl (Nat.le_of_ble_eq_true rfl)))))))
theorem ze_L_push_8 {d : Nat} {f : zF} {m : zM} {a0 a1 a2 a3 a4 : Value} {y0 : Nat} {y1 y2 : Int32} : zex zTb d zqL_push 8 [a0, a1, a2, a3, a4] [.int y2, .int y1, .ref y0] f m = if zrl (f y0) y1 = true then zex zTb d zqL_push 10 [a0, a1, a2, a3, a4] [] (zup f y0 (zwl (f y0) y1.toNatClampNeg (y2.toInt64))) m else none := (zxl_go (x := (9, [a0, a1, a2, a3, a4], [.long (y2.toInt64), .int y1, .ref y0], f, m)) zh_L_push_8 rfl).trans ((zx_lastore zh_L_push_9))
theorem ze_L_push_10 {d : Nat} {f : zF} {m : zM} {a0 a1 a2 a3 a4 : Value} : zex zTb d zqL_push 10 [a0, a1, a2, a3, a4] [] f m = some (.inl (some (.int (I 0))), f, m) := (zx_goto zh_L_push_10 rfl).trans ((zx_iconst zh_L_push_21).trans ((zx_iret zh_L_push_22 (by first | rfl | decide))))
theorem ze_L_push_15 {d : Nat} {f : zF} {m : zM} {a0 a1 a2 a3 a4 : Value} : zex zTb d zqL_push 15 [a0, a1, a2, a3, a4] [] f m = some (.inl (some (.int (I 1))), f, m) := (zx_iconst zh_L_push_15).trans ((zx_iret zh_L_push_16 (by first | rfl | decide)))
theorem ze_L_push_19 {d : Nat} {f : zF} {m : zM} {a0 a1 a2 a3 a4 : Value} : zex zTb d zqL_push 19 [a0, a1, a2, a3, a4] [] f m = some (.inl (some (.int (I 2))), f, m) := (zx_iconst zh_L_push_19).trans ((zx_iret zh_L_push_20 (by first | rfl | decide)))
-- L_wrap
theorem zh_L_wrap_0 : zfe zqL_wrap.i 0 = some (0, .aload_n 2, 1, 0, 0, 0) := rfl
theorem zh_L_wrap_1 : zfe zqL_wrap.i 1 = some (1, .iconst 0, 1, 0, 0, 0) := rfl
theorem zh_L_wrap_2 : zfe zqL_wrap.i 2 = some (2, .aload_n 0, 1, 0, 0, 0) := rfl
theorem zh_L_wrap_3 : zfe zqL_wrap.i 3 = some (3, .iload_n 1, 1, 0, 0, 0) := rfl
theorem zh_L_wrap_4 : zfe zqL_wrap.i 4 = some (4, .invokevirtual 80, 3, 103, 2, 8) := rfl
theorem zh_L_wrap_7 : zfe zqL_wrap.i 7 = some (7, .i2l, 1, 0, 0, 0) := rfl
theorem zh_L_wrap_8 : zfe zqL_wrap.i 8 = some (8, .lastore, 1, 0, 0, 0) := rfl
theorem zh_L_wrap_9 : zfe zqL_wrap.i 9 = some (9, .goto 9, 3, 0, 0, 0) := rfl
theorem zh_L_wrap_13 : zfe zqL_wrap.i 13 = some (13, .iconst 1, 1, 0, 0, 0) := rfl
theorem zh_L_wrap_14 : zfe zqL_wrap.i 14 = some (14, .ireturn, 1, 0, 0, 0) := rfl
theorem zh_L_wrap_16 : zfe zqL_wrap.i 16 = some (16, .iconst 2, 1, 0, 0, 0) := rfl
theorem zh_L_wrap_17 : zfe zqL_wrap.i 17 = some (17, .ireturn, 1, 0, 0, 0) := rfl
theorem zh_L_wrap_18 : zfe zqL_wrap.i 18 = some (18, .iconst 0, 1, 0, 0, 0) := rfl
theorem zh_L_wrap_19 : zfe zqL_wrap.i 19 = some (19, .ireturn, 1, 0, 0, 0) := rfl
theorem ze_L_wrap_0 {d : Nat} {f : zF} {m : zM} {x0 x2 : Nat} {x1 : Int32} {a3 : Value} : zex zTb d zqL_wrap 0 [.ref x0, .int x1, .ref x2, a3] [] f m = if zisc (f x0) 8 = true then zcal zTb (zrun zTb d 103 [.ref x0, .int x1] f m) d zqL_wrap 4 7 [.ref x0, .int x1, .ref x2, a3] [.int (I 0), .ref x2] else none := (zxl_go (x := (1, [.ref x0, .int x1, .ref x2, a3], [.ref x2], f, m)) zh_L_wrap_0 rfl).trans ((zx_iconst zh_L_wrap_1).trans ((zxl_go (x := (3, [.ref x0, .int x1, .ref x2, a3], [.ref x0, .int (I 0), .ref x2], f, m)) zh_L_wrap_2 rfl).trans ((zxl_go (x := (4, [.ref x0, .int x1, .ref x2, a3], [.int x1, .ref x0, .int (I 0), .ref x2], f, m)) zh_L_wrap_3 rfl).trans ((zx_virtual4 zh_L_wrap_4 (Nat.le_of_ble_eq_true rfl) rfl rfl (Nat.le_of_ble_eq_true rfl))))))
theorem ze_L_wrap_7 {d : Nat} {f : zF} {m : zM} {a0 a1 a2 a3 : Value} {y0 : Nat} {y1 y2 : Int32} : zex zTb d zqL_wrap 7 [a0, a1, a2, a3] [.int y2, .int y1, .ref y0] f m = if zrl (f y0) y1 = true then zex zTb d zqL_wrap 9 [a0, a1, a2, a3] [] (zup f y0 (zwl (f y0) y1.toNatClampNeg (y2.toInt64))) m else none := (zxl_go (x := (8, [a0, a1, a2, a3], [.long (y2.toInt64), .int y1, .ref y0], f, m)) zh_L_wrap_7 rfl).trans ((zx_lastore zh_L_wrap_8))
theorem ze_L_wrap_9 {d : Nat} {f : zF} {m : zM} {a0 a1 a2 a3 : Value} : zex zTb d zqL_wrap 9 [a0, a1, a2, a3] [] f m = some (.inl (some (.int (I 0))), f, m) := (zx_goto zh_L_wrap_9 rfl).trans ((zx_iconst zh_L_wrap_18).trans ((zx_iret zh_L_wrap_19 (by first | rfl | decide))))
theorem ze_L_wrap_13 {d : Nat} {f : zF} {m : zM} {a0 a1 a2 a3 : Value} : zex zTb d zqL_wrap 13 [a0, a1, a2, a3] [] f m = some (.inl (some (.int (I 1))), f, m) := (zx_iconst zh_L_wrap_13).trans ((zx_iret zh_L_wrap_14 (by first | rfl | decide)))
theorem ze_L_wrap_16 {d : Nat} {f : zF} {m : zM} {a0 a1 a2 a3 : Value} : zex zTb d zqL_wrap 16 [a0, a1, a2, a3] [] f m = some (.inl (some (.int (I 2))), f, m) := (zx_iconst zh_L_wrap_16).trans ((zx_iret zh_L_wrap_17 (by first | rfl | decide)))
-- L_join
theorem zh_L_join_0 : zfe zqL_join.i 0 = some (0, .aload_n 2, 1, 0, 0, 0) := rfl
theorem zh_L_join_1 : zfe zqL_join.i 1 = some (1, .iconst 0, 1, 0, 0, 0) := rfl
theorem zh_L_join_2 : zfe zqL_join.i 2 = some (2, .aload_n 0, 1, 0, 0, 0) := rfl
theorem zh_L_join_3 : zfe zqL_join.i 3 = some (3, .iload_n 1, 1, 0, 0, 0) := rfl
theorem zh_L_join_4 : zfe zqL_join.i 4 = some (4, .invokevirtual 83, 3, 104, 2, 8) := rfl
theorem zh_L_join_7 : zfe zqL_join.i 7 = some (7, .i2l, 1, 0, 0, 0) := rfl
theorem zh_L_join_8 : zfe zqL_join.i 8 = some (8, .lastore, 1, 0, 0, 0) := rfl
theorem zh_L_join_9 : zfe zqL_join.i 9 = some (9, .goto 9, 3, 0, 0, 0) := rfl
theorem zh_L_join_13 : zfe zqL_join.i 13 = some (13, .iconst 1, 1, 0, 0, 0) := rfl
theorem zh_L_join_14 : zfe zqL_join.i 14 = some (14, .ireturn, 1, 0, 0, 0) := rfl
theorem zh_L_join_16 : zfe zqL_join.i 16 = some (16, .iconst 2, 1, 0, 0, 0) := rfl
theorem zh_L_join_17 : zfe zqL_join.i 17 = some (17, .ireturn, 1, 0, 0, 0) := rfl
theorem zh_L_join_18 : zfe zqL_join.i 18 = some (18, .iconst 0, 1, 0, 0, 0) := rfl
theorem zh_L_join_19 : zfe zqL_join.i 19 = some (19, .ireturn, 1, 0, 0, 0) := rfl
theorem ze_L_join_0 {d : Nat} {f : zF} {m : zM} {x0 x2 : Nat} {x1 : Int32} {a3 : Value} : zex zTb d zqL_join 0 [.ref x0, .int x1, .ref x2, a3] [] f m = if zisc (f x0) 8 = true then zcal zTb (zrun zTb d 104 [.ref x0, .int x1] f m) d zqL_join 4 7 [.ref x0, .int x1, .ref x2, a3] [.int (I 0), .ref x2] else none := (zxl_go (x := (1, [.ref x0, .int x1, .ref x2, a3], [.ref x2], f, m)) zh_L_join_0 rfl).trans ((zx_iconst zh_L_join_1).trans ((zxl_go (x := (3, [.ref x0, .int x1, .ref x2, a3], [.ref x0, .int (I 0), .ref x2], f, m)) zh_L_join_2 rfl).trans ((zxl_go (x := (4, [.ref x0, .int x1, .ref x2, a3], [.int x1, .ref x0, .int (I 0), .ref x2], f, m)) zh_L_join_3 rfl).trans ((zx_virtual4 zh_L_join_4 (Nat.le_of_ble_eq_true rfl) rfl rfl (Nat.le_of_ble_eq_true rfl))))))
theorem ze_L_join_7 {d : Nat} {f : zF} {m : zM} {a0 a1 a2 a3 : Value} {y0 : Nat} {y1 y2 : Int32} : zex zTb d zqL_join 7 [a0, a1, a2, a3] [.int y2, .int y1, .ref y0] f m = if zrl (f y0) y1 = true then zex zTb d zqL_join 9 [a0, a1, a2, a3] [] (zup f y0 (zwl (f y0) y1.toNatClampNeg (y2.toInt64))) m else none := (zxl_go (x := (8, [a0, a1, a2, a3], [.long (y2.toInt64), .int y1, .ref y0], f, m)) zh_L_join_7 rfl).trans ((zx_lastore zh_L_join_8))
theorem ze_L_join_9 {d : Nat} {f : zF} {m : zM} {a0 a1 a2 a3 : Value} : zex zTb d zqL_join 9 [a0, a1, a2, a3] [] f m = some (.inl (some (.int (I 0))), f, m) := (zx_goto zh_L_join_9 rfl).trans ((zx_iconst zh_L_join_18).trans ((zx_iret zh_L_join_19 (by first | rfl | decide))))
theorem ze_L_join_13 {d : Nat} {f : zF} {m : zM} {a0 a1 a2 a3 : Value} : zex zTb d zqL_join 13 [a0, a1, a2, a3] [] f m = some (.inl (some (.int (I 1))), f, m) := (zx_iconst zh_L_join_13).trans ((zx_iret zh_L_join_14 (by first | rfl | decide)))
theorem ze_L_join_16 {d : Nat} {f : zF} {m : zM} {a0 a1 a2 a3 : Value} : zex zTb d zqL_join 16 [a0, a1, a2, a3] [] f m = some (.inl (some (.int (I 2))), f, m) := (zx_iconst zh_L_join_16).trans ((zx_iret zh_L_join_17 (by first | rfl | decide)))
-- L_take
theorem zh_L_take_0 : zfe zqL_take.i 0 = some (0, .aload_n 1, 1, 0, 0, 0) := rfl
theorem zh_L_take_1 : zfe zqL_take.i 1 = some (1, .iconst 0, 1, 0, 0, 0) := rfl
theorem zh_L_take_2 : zfe zqL_take.i 2 = some (2, .aload_n 0, 1, 0, 0, 0) := rfl
theorem zh_L_take_3 : zfe zqL_take.i 3 = some (3, .invokevirtual 86, 3, 105, 1, 8) := rfl
theorem zh_L_take_6 : zfe zqL_take.i 6 = some (6, .i2l, 1, 0, 0, 0) := rfl
theorem zh_L_take_7 : zfe zqL_take.i 7 = some (7, .lastore, 1, 0, 0, 0) := rfl
theorem zh_L_take_8 : zfe zqL_take.i 8 = some (8, .goto 6, 3, 0, 0, 0) := rfl
theorem zh_L_take_12 : zfe zqL_take.i 12 = some (12, .iconst 1, 1, 0, 0, 0) := rfl
theorem zh_L_take_13 : zfe zqL_take.i 13 = some (13, .ireturn, 1, 0, 0, 0) := rfl
theorem zh_L_take_14 : zfe zqL_take.i 14 = some (14, .iconst 0, 1, 0, 0, 0) := rfl
theorem zh_L_take_15 : zfe zqL_take.i 15 = some (15, .ireturn, 1, 0, 0, 0) := rfl
theorem ze_L_take_0 {d : Nat} {f : zF} {m : zM} {x0 x1 : Nat} {a2 : Value} : zex zTb d zqL_take 0 [.ref x0, .ref x1, a2] [] f m = if zisc (f x0) 8 = true then zcal zTb (zrun zTb d 105 [.ref x0] f m) d zqL_take 3 6 [.ref x0, .ref x1, a2] [.int (I 0), .ref x1] else none := (zxl_go (x := (1, [.ref x0, .ref x1, a2], [.ref x1], f, m)) zh_L_take_0 rfl).trans ((zx_iconst zh_L_take_1).trans ((zxl_go (x := (3, [.ref x0, .ref x1, a2], [.ref x0, .int (I 0), .ref x1], f, m)) zh_L_take_2 rfl).trans ((zx_virtual4 zh_L_take_3 (Nat.le_of_ble_eq_true rfl) rfl rfl (Nat.le_of_ble_eq_true rfl)))))
theorem ze_L_take_6 {d : Nat} {f : zF} {m : zM} {a0 a1 a2 : Value} {y0 : Nat} {y1 y2 : Int32} : zex zTb d zqL_take 6 [a0, a1, a2] [.int y2, .int y1, .ref y0] f m = if zrl (f y0) y1 = true then zex zTb d zqL_take 8 [a0, a1, a2] [] (zup f y0 (zwl (f y0) y1.toNatClampNeg (y2.toInt64))) m else none := (zxl_go (x := (7, [a0, a1, a2], [.long (y2.toInt64), .int y1, .ref y0], f, m)) zh_L_take_6 rfl).trans ((zx_lastore zh_L_take_7))
theorem ze_L_take_8 {d : Nat} {f : zF} {m : zM} {a0 a1 a2 : Value} : zex zTb d zqL_take 8 [a0, a1, a2] [] f m = some (.inl (some (.int (I 0))), f, m) := (zx_goto zh_L_take_8 rfl).trans ((zx_iconst zh_L_take_14).trans ((zx_iret zh_L_take_15 (by first | rfl | decide))))
theorem ze_L_take_12 {d : Nat} {f : zF} {m : zM} {a0 a1 a2 : Value} : zex zTb d zqL_take 12 [a0, a1, a2] [] f m = some (.inl (some (.int (I 1))), f, m) := (zx_iconst zh_L_take_12).trans ((zx_iret zh_L_take_13 (by first | rfl | decide)))
-- L_pop
theorem zh_L_pop_0 : zfe zqL_pop.i 0 = some (0, .aload_n 1, 1, 0, 0, 0) := rfl
theorem zh_L_pop_1 : zfe zqL_pop.i 1 = some (1, .iconst 0, 1, 0, 0, 0) := rfl
theorem zh_L_pop_2 : zfe zqL_pop.i 2 = some (2, .aload_n 0, 1, 0, 0, 0) := rfl
theorem zh_L_pop_3 : zfe zqL_pop.i 3 = some (3, .invokevirtual 89, 3, 106, 1, 8) := rfl
theorem zh_L_pop_6 : zfe zqL_pop.i 6 = some (6, .i2l, 1, 0, 0, 0) := rfl
theorem zh_L_pop_7 : zfe zqL_pop.i 7 = some (7, .lastore, 1, 0, 0, 0) := rfl
theorem zh_L_pop_8 : zfe zqL_pop.i 8 = some (8, .goto 6, 3, 0, 0, 0) := rfl
theorem zh_L_pop_12 : zfe zqL_pop.i 12 = some (12, .iconst 1, 1, 0, 0, 0) := rfl
theorem zh_L_pop_13 : zfe zqL_pop.i 13 = some (13, .ireturn, 1, 0, 0, 0) := rfl
theorem zh_L_pop_14 : zfe zqL_pop.i 14 = some (14, .iconst 0, 1, 0, 0, 0) := rfl
theorem zh_L_pop_15 : zfe zqL_pop.i 15 = some (15, .ireturn, 1, 0, 0, 0) := rfl
theorem ze_L_pop_0 {d : Nat} {f : zF} {m : zM} {x0 x1 : Nat} {a2 : Value} : zex zTb d zqL_pop 0 [.ref x0, .ref x1, a2] [] f m = if zisc (f x0) 8 = true then zcal zTb (zrun zTb d 106 [.ref x0] f m) d zqL_pop 3 6 [.ref x0, .ref x1, a2] [.int (I 0), .ref x1] else none := (zxl_go (x := (1, [.ref x0, .ref x1, a2], [.ref x1], f, m)) zh_L_pop_0 rfl).trans ((zx_iconst zh_L_pop_1).trans ((zxl_go (x := (3, [.ref x0, .ref x1, a2], [.ref x0, .int (I 0), .ref x1], f, m)) zh_L_pop_2 rfl).trans ((zx_virtual4 zh_L_pop_3 (Nat.le_of_ble_eq_true rfl) rfl rfl (Nat.le_of_ble_eq_true rfl)))))
theorem ze_L_pop_6 {d : Nat} {f : zF} {m : zM} {a0 a1 a2 : Value} {y0 : Nat} {y1 y2 : Int32} : zex zTb d zqL_pop 6 [a0, a1, a2] [.int y2, .int y1, .ref y0] f m = if zrl (f y0) y1 = true then zex zTb d zqL_pop 8 [a0, a1, a2] [] (zup f y0 (zwl (f y0) y1.toNatClampNeg (y2.toInt64))) m else none := (zxl_go (x := (7, [a0, a1, a2], [.long (y2.toInt64), .int y1, .ref y0], f, m)) zh_L_pop_6 rfl).trans ((zx_lastore zh_L_pop_7))
theorem ze_L_pop_8 {d : Nat} {f : zF} {m : zM} {a0 a1 a2 : Value} : zex zTb d zqL_pop 8 [a0, a1, a2] [] f m = some (.inl (some (.int (I 0))), f, m) := (zx_goto zh_L_pop_8 rfl).trans ((zx_iconst zh_L_pop_14).trans ((zx_iret zh_L_pop_15 (by first | rfl | decide))))
theorem ze_L_pop_12 {d : Nat} {f : zF} {m : zM} {a0 a1 a2 : Value} : zex zTb d zqL_pop 12 [a0, a1, a2] [] f m = some (.inl (some (.int (I 1))), f, m) := (zx_iconst zh_L_pop_12).trans ((zx_iret zh_L_pop_13 (by first | rfl | decide)))
-- L_topCost
theorem zh_L_topCost_0 : zfe zqL_topCost.i 0 = some (0, .aload_n 1, 1, 0, 0, 0) := rfl
theorem zh_L_topCost_1 : zfe zqL_topCost.i 1 = some (1, .iconst 0, 1, 0, 0, 0) := rfl
theorem zh_L_topCost_2 : zfe zqL_topCost.i 2 = some (2, .aload_n 0, 1, 0, 0, 0) := rfl
theorem zh_L_topCost_3 : zfe zqL_topCost.i 3 = some (3, .invokevirtual 92, 3, 107, 1, 8) := rfl
theorem zh_L_topCost_6 : zfe zqL_topCost.i 6 = some (6, .i2l, 1, 0, 0, 0) := rfl
theorem zh_L_topCost_7 : zfe zqL_topCost.i 7 = some (7, .lastore, 1, 0, 0, 0) := rfl
theorem zh_L_topCost_8 : zfe zqL_topCost.i 8 = some (8, .goto 6, 3, 0, 0, 0) := rfl
theorem zh_L_topCost_12 : zfe zqL_topCost.i 12 = some (12, .iconst 1, 1, 0, 0, 0) := rfl
theorem zh_L_topCost_13 : zfe zqL_topCost.i 13 = some (13, .ireturn, 1, 0, 0, 0) := rfl
theorem zh_L_topCost_14 : zfe zqL_topCost.i 14 = some (14, .iconst 0, 1, 0, 0, 0) := rfl
theorem zh_L_topCost_15 : zfe zqL_topCost.i 15 = some (15, .ireturn, 1, 0, 0, 0) := rfl
theorem ze_L_topCost_0 {d : Nat} {f : zF} {m : zM} {x0 x1 : Nat} {a2 : Value} : zex zTb d zqL_topCost 0 [.ref x0, .ref x1, a2] [] f m = if zisc (f x0) 8 = true then zcal zTb (zrun zTb d 107 [.ref x0] f m) d zqL_topCost 3 6 [.ref x0, .ref x1, a2] [.int (I 0), .ref x1] else none := (zxl_go (x := (1, [.ref x0, .ref x1, a2], [.ref x1], f, m)) zh_L_topCost_0 rfl).trans ((zx_iconst zh_L_topCost_1).trans ((zxl_go (x := (3, [.ref x0, .ref x1, a2], [.ref x0, .int (I 0), .ref x1], f, m)) zh_L_topCost_2 rfl).trans ((zx_virtual4 zh_L_topCost_3 (Nat.le_of_ble_eq_true rfl) rfl rfl (Nat.le_of_ble_eq_true rfl)))))
theorem ze_L_topCost_6 {d : Nat} {f : zF} {m : zM} {a0 a1 a2 : Value} {y0 : Nat} {y1 y2 : Int32} : zex zTb d zqL_topCost 6 [a0, a1, a2] [.int y2, .int y1, .ref y0] f m = if zrl (f y0) y1 = true then zex zTb d zqL_topCost 8 [a0, a1, a2] [] (zup f y0 (zwl (f y0) y1.toNatClampNeg (y2.toInt64))) m else none := (zxl_go (x := (7, [a0, a1, a2], [.long (y2.toInt64), .int y1, .ref y0], f, m)) zh_L_topCost_6 rfl).trans ((zx_lastore zh_L_topCost_7))
theorem ze_L_topCost_8 {d : Nat} {f : zF} {m : zM} {a0 a1 a2 : Value} : zex zTb d zqL_topCost 8 [a0, a1, a2] [] f m = some (.inl (some (.int (I 0))), f, m) := (zx_goto zh_L_topCost_8 rfl).trans ((zx_iconst zh_L_topCost_14).trans ((zx_iret zh_L_topCost_15 (by first | rfl | decide))))
theorem ze_L_topCost_12 {d : Nat} {f : zF} {m : zM} {a0 a1 a2 : Value} : zex zTb d zqL_topCost 12 [a0, a1, a2] [] f m = some (.inl (some (.int (I 1))), f, m) := (zx_iconst zh_L_topCost_12).trans ((zx_iret zh_L_topCost_13 (by first | rfl | decide)))
-- L_topMatches
theorem zh_L_topMatches_0 : zfe zqL_topMatches.i 0 = some (0, .aload_n 3, 1, 0, 0, 0) := rfl
theorem zh_L_topMatches_1 : zfe zqL_topMatches.i 1 = some (1, .iconst 0, 1, 0, 0, 0) := rfl
theorem zh_L_topMatches_2 : zfe zqL_topMatches.i 2 = some (2, .aload_n 0, 1, 0, 0, 0) := rfl
theorem zh_L_topMatches_3 : zfe zqL_topMatches.i 3 = some (3, .lload_n 1, 1, 0, 0, 0) := rfl
theorem zh_L_topMatches_4 : zfe zqL_topMatches.i 4 = some (4, .invokevirtual 95, 3, 108, 2, 8) := rfl
theorem zh_L_topMatches_7 : zfe zqL_topMatches.i 7 = some (7, .ifCond .eq 7, 3, 0, 0, 0) := rfl
theorem zh_L_topMatches_10 : zfe zqL_topMatches.i 10 = some (10, .lconst 1, 1, 0, 0, 0) := rfl
theorem zh_L_topMatches_11 : zfe zqL_topMatches.i 11 = some (11, .goto 4, 3, 0, 0, 0) := rfl
theorem zh_L_topMatches_14 : zfe zqL_topMatches.i 14 = some (14, .lconst 0, 1, 0, 0, 0) := rfl
theorem zh_L_topMatches_15 : zfe zqL_topMatches.i 15 = some (15, .lastore, 1, 0, 0, 0) := rfl
theorem zh_L_topMatches_16 : zfe zqL_topMatches.i 16 = some (16, .goto 11, 3, 0, 0, 0) := rfl
theorem zh_L_topMatches_21 : zfe zqL_topMatches.i 21 = some (21, .iconst 1, 1, 0, 0, 0) := rfl
theorem zh_L_topMatches_22 : zfe zqL_topMatches.i 22 = some (22, .ireturn, 1, 0, 0, 0) := rfl
theorem zh_L_topMatches_25 : zfe zqL_topMatches.i 25 = some (25, .iconst 2, 1, 0, 0, 0) := rfl
theorem zh_L_topMatches_26 : zfe zqL_topMatches.i 26 = some (26, .ireturn, 1, 0, 0, 0) := rfl
theorem zh_L_topMatches_27 : zfe zqL_topMatches.i 27 = some (27, .iconst 0, 1, 0, 0, 0) := rfl
theorem zh_L_topMatches_28 : zfe zqL_topMatches.i 28 = some (28, .ireturn, 1, 0, 0, 0) := rfl
theorem ze_L_topMatches_0 {d : Nat} {f : zF} {m : zM} {x0 x3 : Nat} {x1 : Int64} {a2 a4 : Value} : zex zTb d zqL_topMatches 0 [.ref x0, .long x1, a2, .ref x3, a4] [] f m = if zisc (f x0) 8 = true then zcal zTb (zrun zTb d 108 [.ref x0, .long x1] f m) d zqL_topMatches 4 7 [.ref x0, .long x1, a2, .ref x3, a4] [.int (I 0), .ref x3] else none := (zxl_go (x := (1, [.ref x0, .long x1, a2, .ref x3, a4], [.ref x3], f, m)) zh_L_topMatches_0 rfl).trans ((zx_iconst zh_L_topMatches_1).trans ((zxl_go (x := (3, [.ref x0, .long x1, a2, .ref x3, a4], [.ref x0, .int (I 0), .ref x3], f, m)) zh_L_topMatches_2 rfl).trans ((zxl_go (x := (4, [.ref x0, .long x1, a2, .ref x3, a4], [.long x1, .ref x0, .int (I 0), .ref x3], f, m)) zh_L_topMatches_3 rfl).trans ((zx_virtual4 zh_L_topMatches_4 (Nat.le_of_ble_eq_true rfl) rfl rfl (Nat.le_of_ble_eq_true rfl))))))
theorem ze_L_topMatches_7 {d : Nat} {f : zF} {m : zM} {a0 a1 a2 a3 a4 : Value} {y0 : Nat} {y1 y2 : Int32} : zex zTb d zqL_topMatches 7 [a0, a1, a2, a3, a4] [.int y2, .int y1, .ref y0] f m = if zc1 .eq y2 = true then zex zTb d zqL_topMatches 14 [a0, a1, a2, a3, a4] [.int y1, .ref y0] f m else zex zTb d zqL_topMatches 10 [a0, a1, a2, a3, a4] [.int y1, .ref y0] f m := (zx_if (tgt := 14) zh_L_topMatches_7 rfl)
theorem ze_L_topMatches_10 {d : Nat} {f : zF} {m : zM} {a0 a1 a2 a3 a4 : Value} {y0 : Nat} {y1 : Int32} : zex zTb d zqL_topMatches 10 [a0, a1, a2, a3, a4] [.int y1, .ref y0] f m = if zrl (f y0) y1 = true then zex zTb d zqL_topMatches 16 [a0, a1, a2, a3, a4] [] (zup f y0 (zwl (f y0) y1.toNatClampNeg (J 1))) m else none := (zx_lconst (v := 1) zh_L_topMatches_10 (by decide)).trans ((zx_goto zh_L_topMatches_11 rfl).trans ((zx_lastore zh_L_topMatches_15)))
theorem ze_L_topMatches_14 {d : Nat} {f : zF} {m : zM} {a0 a1 a2 a3 a4 : Value} {y0 : Nat} {y1 : Int32} : zex zTb d zqL_topMatches 14 [a0, a1, a2, a3, a4] [.int y1, .ref y0] f m = if zrl (f y0) y1 = true then zex zTb d zqL_topMatches 16 [a0, a1, a2, a3, a4] [] (zup f y0 (zwl (f y0) y1.toNatClampNeg (J 0))) m else none := (zx_lconst (v := 0) zh_L_topMatches_14 (by decide)).trans ((zx_lastore zh_L_topMatches_15))
theorem ze_L_topMatches_16 {d : Nat} {f : zF} {m : zM} {a0 a1 a2 a3 a4 : Value} : zex zTb d zqL_topMatches 16 [a0, a1, a2, a3, a4] [] f m = some (.inl (some (.int (I 0))), f, m) := (zx_goto zh_L_topMatches_16 rfl).trans ((zx_iconst zh_L_topMatches_27).trans ((zx_iret zh_L_topMatches_28 (by first | rfl | decide))))
theorem ze_L_topMatches_21 {d : Nat} {f : zF} {m : zM} {a0 a1 a2 a3 a4 : Value} : zex zTb d zqL_topMatches 21 [a0, a1, a2, a3, a4] [] f m = some (.inl (some (.int (I 1))), f, m) := (zx_iconst zh_L_topMatches_21).trans ((zx_iret zh_L_topMatches_22 (by first | rfl | decide)))
theorem ze_L_topMatches_25 {d : Nat} {f : zF} {m : zM} {a0 a1 a2 a3 a4 : Value} : zex zTb d zqL_topMatches 25 [a0, a1, a2, a3, a4] [] f m = some (.inl (some (.int (I 2))), f, m) := (zx_iconst zh_L_topMatches_25).trans ((zx_iret zh_L_topMatches_26 (by first | rfl | decide)))
-- L_topWrong
theorem zh_L_topWrong_0 : zfe zqL_topWrong.i 0 = some (0, .aload_n 1, 1, 0, 0, 0) := rfl
theorem zh_L_topWrong_1 : zfe zqL_topWrong.i 1 = some (1, .iconst 0, 1, 0, 0, 0) := rfl
theorem zh_L_topWrong_2 : zfe zqL_topWrong.i 2 = some (2, .aload_n 0, 1, 0, 0, 0) := rfl
theorem zh_L_topWrong_3 : zfe zqL_topWrong.i 3 = some (3, .invokevirtual 98, 3, 109, 1, 8) := rfl
theorem zh_L_topWrong_6 : zfe zqL_topWrong.i 6 = some (6, .i2l, 1, 0, 0, 0) := rfl
theorem zh_L_topWrong_7 : zfe zqL_topWrong.i 7 = some (7, .lastore, 1, 0, 0, 0) := rfl
theorem zh_L_topWrong_8 : zfe zqL_topWrong.i 8 = some (8, .goto 6, 3, 0, 0, 0) := rfl
theorem zh_L_topWrong_12 : zfe zqL_topWrong.i 12 = some (12, .iconst 1, 1, 0, 0, 0) := rfl
theorem zh_L_topWrong_13 : zfe zqL_topWrong.i 13 = some (13, .ireturn, 1, 0, 0, 0) := rfl
theorem zh_L_topWrong_14 : zfe zqL_topWrong.i 14 = some (14, .iconst 0, 1, 0, 0, 0) := rfl
theorem zh_L_topWrong_15 : zfe zqL_topWrong.i 15 = some (15, .ireturn, 1, 0, 0, 0) := rfl
theorem ze_L_topWrong_0 {d : Nat} {f : zF} {m : zM} {x0 x1 : Nat} {a2 : Value} : zex zTb d zqL_topWrong 0 [.ref x0, .ref x1, a2] [] f m = if zisc (f x0) 8 = true then zcal zTb (zrun zTb d 109 [.ref x0] f m) d zqL_topWrong 3 6 [.ref x0, .ref x1, a2] [.int (I 0), .ref x1] else none := (zxl_go (x := (1, [.ref x0, .ref x1, a2], [.ref x1], f, m)) zh_L_topWrong_0 rfl).trans ((zx_iconst zh_L_topWrong_1).trans ((zxl_go (x := (3, [.ref x0, .ref x1, a2], [.ref x0, .int (I 0), .ref x1], f, m)) zh_L_topWrong_2 rfl).trans ((zx_virtual4 zh_L_topWrong_3 (Nat.le_of_ble_eq_true rfl) rfl rfl (Nat.le_of_ble_eq_true rfl)))))
theorem ze_L_topWrong_6 {d : Nat} {f : zF} {m : zM} {a0 a1 a2 : Value} {y0 : Nat} {y1 y2 : Int32} : zex zTb d zqL_topWrong 6 [a0, a1, a2] [.int y2, .int y1, .ref y0] f m = if zrl (f y0) y1 = true then zex zTb d zqL_topWrong 8 [a0, a1, a2] [] (zup f y0 (zwl (f y0) y1.toNatClampNeg (y2.toInt64))) m else none := (zxl_go (x := (7, [a0, a1, a2], [.long (y2.toInt64), .int y1, .ref y0], f, m)) zh_L_topWrong_6 rfl).trans ((zx_lastore zh_L_topWrong_7))
theorem ze_L_topWrong_8 {d : Nat} {f : zF} {m : zM} {a0 a1 a2 : Value} : zex zTb d zqL_topWrong 8 [a0, a1, a2] [] f m = some (.inl (some (.int (I 0))), f, m) := (zx_goto zh_L_topWrong_8 rfl).trans ((zx_iconst zh_L_topWrong_14).trans ((zx_iret zh_L_topWrong_15 (by first | rfl | decide))))
theorem ze_L_topWrong_12 {d : Nat} {f : zF} {m : zM} {a0 a1 a2 : Value} : zex zTb d zqL_topWrong 12 [a0, a1, a2] [] f m = some (.inl (some (.int (I 1))), f, m) := (zx_iconst zh_L_topWrong_12).trans ((zx_iret zh_L_topWrong_13 (by first | rfl | decide)))
