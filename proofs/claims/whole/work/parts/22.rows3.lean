/-! RU(Nat.le_of_ble_eq_true rfl)ING ROWS of the methods -/
-- X9_take
theorem zh_X9_take_0 : zfe zqX9_take.i 0 = some (0, .aload_n 0, 1, 0, 0, 0) := rfl
theorem zh_X9_take_1 : zfe zqX9_take.i 1 = some (1, .invokevirtual 156, 3, 99, 1, 8) := rfl
theorem zh_X9_take_4 : zfe zqX9_take.i 4 = some (4, .aload_n 0, 1, 0, 0, 0) := rfl
theorem zh_X9_take_5 : zfe zqX9_take.i 5 = some (5, .getfield 212, 3, 8, 9, 0) := rfl
theorem zh_X9_take_8 : zfe zqX9_take.i 8 = some (8, .aload_n 0, 1, 0, 0, 0) := rfl
theorem zh_X9_take_9 : zfe zqX9_take.i 9 = some (9, .getfield 48, 3, 8, 8, 0) := rfl
theorem zh_X9_take_12 : zfe zqX9_take.i 12 = some (12, .arraylength, 1, 0, 0, 0) := rfl
theorem zh_X9_take_13 : zfe zqX9_take.i 13 = some (13, .if_icmp .lt 13, 3, 0, 0, 0) := rfl
theorem zh_X9_take_16 : zfe zqX9_take.i 16 = some (16, .new 73, 3, 1, 216, 77) := rfl
theorem zh_X9_take_26 : zfe zqX9_take.i 26 = some (26, .aload_n 0, 1, 0, 0, 0) := rfl
theorem zh_X9_take_27 : zfe zqX9_take.i 27 = some (27, .getfield 48, 3, 8, 8, 0) := rfl
theorem zh_X9_take_30 : zfe zqX9_take.i 30 = some (30, .aload_n 0, 1, 0, 0, 0) := rfl
theorem zh_X9_take_31 : zfe zqX9_take.i 31 = some (31, .getfield 212, 3, 8, 9, 0) := rfl
theorem zh_X9_take_34 : zfe zqX9_take.i 34 = some (34, .aaload, 1, 0, 0, 0) := rfl
theorem zh_X9_take_35 : zfe zqX9_take.i 35 = some (35, .aload_n 0, 1, 0, 0, 0) := rfl
theorem zh_X9_take_36 : zfe zqX9_take.i 36 = some (36, .getfield 37, 3, 8, 5, 0) := rfl
theorem zh_X9_take_39 : zfe zqX9_take.i 39 = some (39, .invokevirtual 240, 3, 19, 2, 2) := rfl
theorem zh_X9_take_42 : zfe zqX9_take.i 42 = some (42, .aload_n 0, 1, 0, 0, 0) := rfl
theorem zh_X9_take_43 : zfe zqX9_take.i 43 = some (43, .dup, 1, 0, 0, 0) := rfl
theorem zh_X9_take_44 : zfe zqX9_take.i 44 = some (44, .getfield 212, 3, 8, 9, 0) := rfl
theorem zh_X9_take_47 : zfe zqX9_take.i 47 = some (47, .iconst 1, 1, 0, 0, 0) := rfl
theorem zh_X9_take_48 : zfe zqX9_take.i 48 = some (48, .iadd, 1, 0, 0, 0) := rfl
theorem zh_X9_take_49 : zfe zqX9_take.i 49 = some (49, .putfield 212, 3, 8, 9, 0) := rfl
theorem zh_X9_take_52 : zfe zqX9_take.i 52 = some (52, .aload_n 0, 1, 0, 0, 0) := rfl
theorem zh_X9_take_53 : zfe zqX9_take.i 53 = some (53, .getfield 212, 3, 8, 9, 0) := rfl
theorem zh_X9_take_56 : zfe zqX9_take.i 56 = some (56, .ireturn, 1, 0, 0, 0) := rfl
theorem ze_X9_take_0 {d : Nat} {f : zF} {m : zM} {x0 : Nat} : zex zTb d zqX9_take 0 [.ref x0] [] f m = if zisc (f x0) 8 = true then zcal zTb (zrun zTb d 99 [.ref x0] f m) d zqX9_take 1 4 [.ref x0] [] else none := (zxl_go (x := (1, [.ref x0], [.ref x0], f, m)) zh_X9_take_0 rfl).trans ((zx_virtual4 zh_X9_take_1 (Nat.le_of_ble_eq_true rfl) rfl rfl (Nat.le_of_ble_eq_true rfl)))
theorem ze_X9_take_4 {d : Nat} {f : zF} {m : zM} {x0 : Nat} : zex zTb d zqX9_take 4 [.ref x0] [] f m = if zco (f x0) 8 9 = true then zex zTb d zqX9_take 8 [.ref x0] [zcf (f x0) 9] f m else none := (zxl_go (x := (5, [.ref x0], [.ref x0], f, m)) zh_X9_take_4 rfl).trans ((zx_getfield zh_X9_take_5))
theorem ze_X9_take_8 {d : Nat} {f : zF} {m : zM} {x0 : Nat} {y0 : Int32} : zex zTb d zqX9_take 8 [.ref x0] [.int y0] f m = if zco (f x0) 8 8 = true then zex zTb d zqX9_take 12 [.ref x0] [zcf (f x0) 8, .int y0] f m else none := (zxl_go (x := (9, [.ref x0], [.ref x0, .int y0], f, m)) zh_X9_take_8 rfl).trans ((zx_getfield zh_X9_take_9))
theorem ze_X9_take_12 {d : Nat} {f : zF} {m : zM} {a0 : Value} {y0 : Int32} {y1 : Nat} : zex zTb d zqX9_take 12 [a0] [.ref y1, .int y0] f m = if zisa (f y1) = true then zex zTb d zqX9_take 13 [a0] [.int (Int32.ofNat (zln (f y1))), .int y0] f m else none := (zx_alen zh_X9_take_12)
theorem ze_X9_take_13 {d : Nat} {f : zF} {m : zM} {a0 : Value} {y0 y1 : Int32} : zex zTb d zqX9_take 13 [a0] [.int y1, .int y0] f m = if zc2 .lt y0 y1 = true then zex zTb d zqX9_take 26 [a0] [] f m else zex zTb d zqX9_take 16 [a0] [] f m := (zx_icmp (tgt := 26) zh_X9_take_13 rfl)
theorem ze_X9_take_16 {d : Nat} {f : zF} {m : zM} {a0 : Value} : zex zTb d zqX9_take 16 [a0] [] f m = some (.inr 1, f, (none, m.2.1 + 1, m.2.2 + 6)) := (zx_throw zh_X9_take_16 (Nat.le_of_ble_eq_true rfl))
theorem ze_X9_take_26 {d : Nat} {f : zF} {m : zM} {x0 : Nat} : zex zTb d zqX9_take 26 [.ref x0] [] f m = if zco (f x0) 8 8 = true then zex zTb d zqX9_take 30 [.ref x0] [zcf (f x0) 8] f m else none := (zxl_go (x := (27, [.ref x0], [.ref x0], f, m)) zh_X9_take_26 rfl).trans ((zx_getfield zh_X9_take_27))
theorem ze_X9_take_30 {d : Nat} {f : zF} {m : zM} {x0 y0 : Nat} : zex zTb d zqX9_take 30 [.ref x0] [.ref y0] f m = if zco (f x0) 8 9 = true then zex zTb d zqX9_take 34 [.ref x0] [zcf (f x0) 9, .ref y0] f m else none := (zxl_go (x := (31, [.ref x0], [.ref x0, .ref y0], f, m)) zh_X9_take_30 rfl).trans ((zx_getfield zh_X9_take_31))
theorem ze_X9_take_34 {d : Nat} {f : zF} {m : zM} {a0 : Value} {y0 : Nat} {y1 : Int32} : zex zTb d zqX9_take 34 [a0] [.int y1, .ref y0] f m = if zrq (f y0) y1 = true then zex zTb d zqX9_take 35 [a0] [.ref (zgq (f y0) y1.toNatClampNeg)] f m else none := (zx_aaload zh_X9_take_34)
theorem ze_X9_take_35 {d : Nat} {f : zF} {m : zM} {x0 y0 : Nat} : zex zTb d zqX9_take 35 [.ref x0] [.ref y0] f m = if zco (f x0) 8 5 = true then zex zTb d zqX9_take 39 [.ref x0] [zcf (f x0) 5, .ref y0] f m else none := (zxl_go (x := (36, [.ref x0], [.ref x0, .ref y0], f, m)) zh_X9_take_35 rfl).trans ((zx_getfield zh_X9_take_36))
theorem ze_X9_take_39 {d : Nat} {f : zF} {m : zM} {a0 : Value} {y0 y1 : Nat} : zex zTb d zqX9_take 39 [a0] [.ref y1, .ref y0] f m = if zisc (f y0) 2 = true then zcal zTb (zrun zTb d 19 [.ref y0, .ref y1] f m) d zqX9_take 39 42 [a0] [] else none := (zx_virtual4 zh_X9_take_39 (Nat.le_of_ble_eq_true rfl) rfl rfl (Nat.le_of_ble_eq_true rfl))
theorem ze_X9_take_42 {d : Nat} {f : zF} {m : zM} {x0 : Nat} : zex zTb d zqX9_take 42 [.ref x0] [] f m = if zco (f x0) 8 9 = true then zex zTb d zqX9_take 47 [.ref x0] [zcf (f x0) 9, .ref x0] f m else none := (zxl_go (x := (43, [.ref x0], [.ref x0], f, m)) zh_X9_take_42 rfl).trans ((zxl_go (x := (44, [.ref x0], [.ref x0, .ref x0], f, m)) zh_X9_take_43 rfl).trans ((zx_getfield zh_X9_take_44)))
theorem ze_X9_take_47 {d : Nat} {f : zF} {m : zM} {a0 : Value} {y0 : Nat} {y1 : Int32} : zex zTb d zqX9_take 47 [a0] [.int y1, .ref y0] f m = if (zco (f y0) 8 9 && zok (zfty 8 9) (.int (y1 + (I 1)))) = true then zex zTb d zqX9_take 52 [a0] [] (zup f y0 (zcs (f y0) 9 (.int (y1 + (I 1))))) m else none := (zx_iconst zh_X9_take_47).trans ((zxl_go (x := (49, [a0], [.int (y1 + (I 1)), .ref y0], f, m)) zh_X9_take_48 rfl).trans ((zx_putfield zh_X9_take_49)))
theorem ze_X9_take_52 {d : Nat} {f : zF} {m : zM} {x0 : Nat} : zex zTb d zqX9_take 52 [.ref x0] [] f m = if zco (f x0) 8 9 = true then zex zTb d zqX9_take 56 [.ref x0] [zcf (f x0) 9] f m else none := (zxl_go (x := (53, [.ref x0], [.ref x0], f, m)) zh_X9_take_52 rfl).trans ((zx_getfield zh_X9_take_53))
theorem ze_X9_take_56 {d : Nat} {f : zF} {m : zM} {a0 : Value} {y0 : Int32} : zex zTb d zqX9_take 56 [a0] [.int y0] f m = some (.inl (some (.int y0)), f, m) := (zx_iret zh_X9_take_56 (by first | rfl | decide))
-- X9_pop
theorem zh_X9_pop_0 : zfe zqX9_pop.i 0 = some (0, .aload_n 0, 1, 0, 0, 0) := rfl
theorem zh_X9_pop_1 : zfe zqX9_pop.i 1 = some (1, .getfield 212, 3, 8, 9, 0) := rfl
theorem zh_X9_pop_4 : zfe zqX9_pop.i 4 = some (4, .ifCond .ne 13, 3, 0, 0, 0) := rfl
theorem zh_X9_pop_7 : zfe zqX9_pop.i 7 = some (7, .new 73, 3, 1, 244, 77) := rfl
theorem zh_X9_pop_17 : zfe zqX9_pop.i 17 = some (17, .aload_n 0, 1, 0, 0, 0) := rfl
theorem zh_X9_pop_18 : zfe zqX9_pop.i 18 = some (18, .dup, 1, 0, 0, 0) := rfl
theorem zh_X9_pop_19 : zfe zqX9_pop.i 19 = some (19, .getfield 212, 3, 8, 9, 0) := rfl
theorem zh_X9_pop_22 : zfe zqX9_pop.i 22 = some (22, .iconst 1, 1, 0, 0, 0) := rfl
theorem zh_X9_pop_23 : zfe zqX9_pop.i 23 = some (23, .isub, 1, 0, 0, 0) := rfl
theorem zh_X9_pop_24 : zfe zqX9_pop.i 24 = some (24, .putfield 212, 3, 8, 9, 0) := rfl
theorem zh_X9_pop_27 : zfe zqX9_pop.i 27 = some (27, .aload_n 0, 1, 0, 0, 0) := rfl
theorem zh_X9_pop_28 : zfe zqX9_pop.i 28 = some (28, .getfield 212, 3, 8, 9, 0) := rfl
theorem zh_X9_pop_31 : zfe zqX9_pop.i 31 = some (31, .ireturn, 1, 0, 0, 0) := rfl
theorem ze_X9_pop_0 {d : Nat} {f : zF} {m : zM} {x0 : Nat} : zex zTb d zqX9_pop 0 [.ref x0] [] f m = if zco (f x0) 8 9 = true then zex zTb d zqX9_pop 4 [.ref x0] [zcf (f x0) 9] f m else none := (zxl_go (x := (1, [.ref x0], [.ref x0], f, m)) zh_X9_pop_0 rfl).trans ((zx_getfield zh_X9_pop_1))
theorem ze_X9_pop_4 {d : Nat} {f : zF} {m : zM} {a0 : Value} {y0 : Int32} : zex zTb d zqX9_pop 4 [a0] [.int y0] f m = if zc1 .ne y0 = true then zex zTb d zqX9_pop 17 [a0] [] f m else zex zTb d zqX9_pop 7 [a0] [] f m := (zx_if (tgt := 17) zh_X9_pop_4 rfl)
theorem ze_X9_pop_7 {d : Nat} {f : zF} {m : zM} {a0 : Value} : zex zTb d zqX9_pop 7 [a0] [] f m = some (.inr 1, f, (none, m.2.1 + 1, m.2.2 + 6)) := (zx_throw zh_X9_pop_7 (Nat.le_of_ble_eq_true rfl))
theorem ze_X9_pop_17 {d : Nat} {f : zF} {m : zM} {x0 : Nat} : zex zTb d zqX9_pop 17 [.ref x0] [] f m = if zco (f x0) 8 9 = true then zex zTb d zqX9_pop 22 [.ref x0] [zcf (f x0) 9, .ref x0] f m else none := (zxl_go (x := (18, [.ref x0], [.ref x0], f, m)) zh_X9_pop_17 rfl).trans ((zxl_go (x := (19, [.ref x0], [.ref x0, .ref x0], f, m)) zh_X9_pop_18 rfl).trans ((zx_getfield zh_X9_pop_19)))
theorem ze_X9_pop_22 {d : Nat} {f : zF} {m : zM} {a0 : Value} {y0 : Nat} {y1 : Int32} : zex zTb d zqX9_pop 22 [a0] [.int y1, .ref y0] f m = if (zco (f y0) 8 9 && zok (zfty 8 9) (.int (y1 - (I 1)))) = true then zex zTb d zqX9_pop 27 [a0] [] (zup f y0 (zcs (f y0) 9 (.int (y1 - (I 1))))) m else none := (zx_iconst zh_X9_pop_22).trans ((zxl_go (x := (24, [a0], [.int (y1 - (I 1)), .ref y0], f, m)) zh_X9_pop_23 rfl).trans ((zx_putfield zh_X9_pop_24)))
theorem ze_X9_pop_27 {d : Nat} {f : zF} {m : zM} {x0 : Nat} : zex zTb d zqX9_pop 27 [.ref x0] [] f m = if zco (f x0) 8 9 = true then zex zTb d zqX9_pop 31 [.ref x0] [zcf (f x0) 9] f m else none := (zxl_go (x := (28, [.ref x0], [.ref x0], f, m)) zh_X9_pop_27 rfl).trans ((zx_getfield zh_X9_pop_28))
theorem ze_X9_pop_31 {d : Nat} {f : zF} {m : zM} {a0 : Value} {y0 : Int32} : zex zTb d zqX9_pop 31 [a0] [.int y0] f m = some (.inl (some (.int y0)), f, m) := (zx_iret zh_X9_pop_31 (by first | rfl | decide))
-- X9_topCost
theorem zh_X9_topCost_0 : zfe zqX9_topCost.i 0 = some (0, .aload_n 0, 1, 0, 0, 0) := rfl
theorem zh_X9_topCost_1 : zfe zqX9_topCost.i 1 = some (1, .invokevirtual 223, 3, 110, 1, 8) := rfl
theorem zh_X9_topCost_4 : zfe zqX9_topCost.i 4 = some (4, .aload_n 0, 1, 0, 0, 0) := rfl
theorem zh_X9_topCost_5 : zfe zqX9_topCost.i 5 = some (5, .getfield 16, 3, 8, 1, 0) := rfl
theorem zh_X9_topCost_8 : zfe zqX9_topCost.i 8 = some (8, .invokevirtual 245, 3, 15, 2, 2) := rfl
theorem zh_X9_topCost_11 : zfe zqX9_topCost.i 11 = some (11, .ireturn, 1, 0, 0, 0) := rfl
theorem ze_X9_topCost_0 {d : Nat} {f : zF} {m : zM} {x0 : Nat} : zex zTb d zqX9_topCost 0 [.ref x0] [] f m = if zisc (f x0) 8 = true then zcal zTb (zrun zTb d 110 [.ref x0] f m) d zqX9_topCost 1 4 [.ref x0] [] else none := (zxl_go (x := (1, [.ref x0], [.ref x0], f, m)) zh_X9_topCost_0 rfl).trans ((zx_virtual4 zh_X9_topCost_1 (Nat.le_of_ble_eq_true rfl) rfl rfl (Nat.le_of_ble_eq_true rfl)))
theorem ze_X9_topCost_4 {d : Nat} {f : zF} {m : zM} {x0 y0 : Nat} : zex zTb d zqX9_topCost 4 [.ref x0] [.ref y0] f m = if zco (f x0) 8 1 = true then zex zTb d zqX9_topCost 8 [.ref x0] [zcf (f x0) 1, .ref y0] f m else none := (zxl_go (x := (5, [.ref x0], [.ref x0, .ref y0], f, m)) zh_X9_topCost_4 rfl).trans ((zx_getfield zh_X9_topCost_5))
theorem ze_X9_topCost_8 {d : Nat} {f : zF} {m : zM} {a0 : Value} {y0 y1 : Nat} : zex zTb d zqX9_topCost 8 [a0] [.ref y1, .ref y0] f m = if zisc (f y0) 2 = true then zcal zTb (zrun zTb d 15 [.ref y0, .ref y1] f m) d zqX9_topCost 8 11 [a0] [] else none := (zx_virtual4 zh_X9_topCost_8 (Nat.le_of_ble_eq_true rfl) rfl rfl (Nat.le_of_ble_eq_true rfl))
theorem ze_X9_topCost_11 {d : Nat} {f : zF} {m : zM} {a0 : Value} {y0 : Int32} : zex zTb d zqX9_topCost 11 [a0] [.int y0] f m = some (.inl (some (.int y0)), f, m) := (zx_iret zh_X9_topCost_11 (by first | rfl | decide))
-- X9_topMatches
theorem zh_X9_topMatches_0 : zfe zqX9_topMatches.i 0 = some (0, .aload_n 0, 1, 0, 0, 0) := rfl
theorem zh_X9_topMatches_1 : zfe zqX9_topMatches.i 1 = some (1, .invokevirtual 223, 3, 110, 1, 8) := rfl
theorem zh_X9_topMatches_4 : zfe zqX9_topMatches.i 4 = some (4, .astore_n 3, 1, 0, 0, 0) := rfl
theorem zh_X9_topMatches_5 : zfe zqX9_topMatches.i 5 = some (5, .lload_n 1, 1, 0, 0, 0) := rfl
theorem zh_X9_topMatches_6 : zfe zqX9_topMatches.i 6 = some (6, .invokestatic 181, 3, 101, 1, 0) := rfl
theorem zh_X9_topMatches_9 : zfe zqX9_topMatches.i 9 = some (9, .aload_n 0, 1, 0, 0, 0) := rfl
theorem zh_X9_topMatches_10 : zfe zqX9_topMatches.i 10 = some (10, .getfield 30, 3, 8, 3, 0) := rfl
theorem zh_X9_topMatches_13 : zfe zqX9_topMatches.i 13 = some (13, .aload_n 3, 1, 0, 0, 0) := rfl
theorem zh_X9_topMatches_14 : zfe zqX9_topMatches.i 14 = some (14, .lload_n 1, 1, 0, 0, 0) := rfl
theorem zh_X9_topMatches_15 : zfe zqX9_topMatches.i 15 = some (15, .invokestatic 65, 3, 72, 1, 0) := rfl
theorem zh_X9_topMatches_18 : zfe zqX9_topMatches.i 18 = some (18, .invokevirtual 185, 3, 65, 3, 7) := rfl
theorem zh_X9_topMatches_21 : zfe zqX9_topMatches.i 21 = some (21, .ireturn, 1, 0, 0, 0) := rfl
theorem ze_X9_topMatches_0 {d : Nat} {f : zF} {m : zM} {x0 : Nat} {a1 a2 a3 : Value} : zex zTb d zqX9_topMatches 0 [.ref x0, a1, a2, a3] [] f m = if zisc (f x0) 8 = true then zcal zTb (zrun zTb d 110 [.ref x0] f m) d zqX9_topMatches 1 4 [.ref x0, a1, a2, a3] [] else none := (zxl_go (x := (1, [.ref x0, a1, a2, a3], [.ref x0], f, m)) zh_X9_topMatches_0 rfl).trans ((zx_virtual4 zh_X9_topMatches_1 (Nat.le_of_ble_eq_true rfl) rfl rfl (Nat.le_of_ble_eq_true rfl)))
theorem ze_X9_topMatches_4 {d : Nat} {f : zF} {m : zM} {a0 a2 a3 : Value} {x1 : Int64} {y0 : Nat} : zex zTb d zqX9_topMatches 4 [a0, .long x1, a2, a3] [.ref y0] f m = zcal zTb (zrun zTb d 101 [.long x1] f m) d zqX9_topMatches 6 9 [a0, .long x1, (zclr a2), .ref y0] [] := (zxl_go (x := (5, [a0, .long x1, (zclr a2), .ref y0], [], f, m)) zh_X9_topMatches_4 rfl).trans ((zxl_go (x := (6, [a0, .long x1, (zclr a2), .ref y0], [.long x1], f, m)) zh_X9_topMatches_5 rfl).trans (((zx_static zh_X9_topMatches_6 (Nat.le_of_ble_eq_true rfl) rfl rfl).trans (if_pos (Nat.le_of_ble_eq_true rfl)))))
theorem ze_X9_topMatches_9 {d : Nat} {f : zF} {m : zM} {x0 : Nat} {a1 a2 a3 : Value} : zex zTb d zqX9_topMatches 9 [.ref x0, a1, a2, a3] [] f m = if zco (f x0) 8 3 = true then zex zTb d zqX9_topMatches 13 [.ref x0, a1, a2, a3] [zcf (f x0) 3] f m else none := (zxl_go (x := (10, [.ref x0, a1, a2, a3], [.ref x0], f, m)) zh_X9_topMatches_9 rfl).trans ((zx_getfield zh_X9_topMatches_10))
theorem ze_X9_topMatches_13 {d : Nat} {f : zF} {m : zM} {a0 a2 : Value} {x1 : Int64} {x3 y0 : Nat} : zex zTb d zqX9_topMatches 13 [a0, .long x1, a2, .ref x3] [.ref y0] f m = zcal zTb (zrun zTb d 72 [.long x1] f m) d zqX9_topMatches 15 18 [a0, .long x1, a2, .ref x3] [.ref x3, .ref y0] := (zxl_go (x := (14, [a0, .long x1, a2, .ref x3], [.ref x3, .ref y0], f, m)) zh_X9_topMatches_13 rfl).trans ((zxl_go (x := (15, [a0, .long x1, a2, .ref x3], [.long x1, .ref x3, .ref y0], f, m)) zh_X9_topMatches_14 rfl).trans (((zx_static zh_X9_topMatches_15 (Nat.le_of_ble_eq_true rfl) rfl rfl).trans (if_pos (Nat.le_of_ble_eq_true rfl)))))
theorem ze_X9_topMatches_18 {d : Nat} {f : zF} {m : zM} {a0 a1 a2 a3 : Value} {y0 y1 : Nat} {y2 : Int64} : zex zTb d zqX9_topMatches 18 [a0, a1, a2, a3] [.long y2, .ref y1, .ref y0] f m = if zisc (f y0) 7 = true then zcal zTb (zrun zTb d 65 [.ref y0, .ref y1, .long y2] f m) d zqX9_topMatches 18 21 [a0, a1, a2, a3] [] else none := (zx_virtual4 zh_X9_topMatches_18 (Nat.le_of_ble_eq_true rfl) rfl rfl (Nat.le_of_ble_eq_true rfl))
theorem ze_X9_topMatches_21 {d : Nat} {f : zF} {m : zM} {a0 a1 a2 a3 : Value} {y0 : Int32} : zex zTb d zqX9_topMatches 21 [a0, a1, a2, a3] [.int y0] f m = if (y0 = 0 ∨ y0 = 1) then some (.inl (some (.int y0)), f, m) else none := (zx_bret zh_X9_topMatches_21 rfl)
-- X9_topWrong
theorem zh_X9_topWrong_0 : zfe zqX9_topWrong.i 0 = some (0, .aload_n 0, 1, 0, 0, 0) := rfl
theorem zh_X9_topWrong_1 : zfe zqX9_topWrong.i 1 = some (1, .invokevirtual 223, 3, 110, 1, 8) := rfl
theorem zh_X9_topWrong_4 : zfe zqX9_topWrong.i 4 = some (4, .astore_n 1, 1, 0, 0, 0) := rfl
theorem zh_X9_topWrong_5 : zfe zqX9_topWrong.i 5 = some (5, .iconst 0, 1, 0, 0, 0) := rfl
theorem zh_X9_topWrong_6 : zfe zqX9_topWrong.i 6 = some (6, .istore_n 2, 1, 0, 0, 0) := rfl
theorem zh_X9_topWrong_7 : zfe zqX9_topWrong.i 7 = some (7, .iconst 0, 1, 0, 0, 0) := rfl
theorem zh_X9_topWrong_8 : zfe zqX9_topWrong.i 8 = some (8, .istore_n 3, 1, 0, 0, 0) := rfl
theorem zh_X9_topWrong_9 : zfe zqX9_topWrong.i 9 = some (9, .iload_n 3, 1, 0, 0, 0) := rfl
theorem zh_X9_topWrong_10 : zfe zqX9_topWrong.i 10 = some (10, .aload_n 0, 1, 0, 0, 0) := rfl
theorem zh_X9_topWrong_11 : zfe zqX9_topWrong.i 11 = some (11, .getfield 10, 3, 8, 0, 0) := rfl
theorem zh_X9_topWrong_14 : zfe zqX9_topWrong.i 14 = some (14, .getfield 82, 3, 1, 2, 0) := rfl
theorem zh_X9_topWrong_17 : zfe zqX9_topWrong.i 17 = some (17, .if_icmp .ge 41, 3, 0, 0, 0) := rfl
theorem zh_X9_topWrong_20 : zfe zqX9_topWrong.i 20 = some (20, .aload_n 0, 1, 0, 0, 0) := rfl
theorem zh_X9_topWrong_21 : zfe zqX9_topWrong.i 21 = some (21, .getfield 30, 3, 8, 3, 0) := rfl
theorem zh_X9_topWrong_24 : zfe zqX9_topWrong.i 24 = some (24, .aload_n 1, 1, 0, 0, 0) := rfl
theorem zh_X9_topWrong_25 : zfe zqX9_topWrong.i 25 = some (25, .aload_n 0, 1, 0, 0, 0) := rfl
theorem zh_X9_topWrong_26 : zfe zqX9_topWrong.i 26 = some (26, .getfield 10, 3, 8, 0, 0) := rfl
theorem zh_X9_topWrong_29 : zfe zqX9_topWrong.i 29 = some (29, .getfield 108, 3, 1, 0, 0) := rfl
theorem zh_X9_topWrong_32 : zfe zqX9_topWrong.i 32 = some (32, .iload_n 3, 1, 0, 0, 0) := rfl
theorem zh_X9_topWrong_33 : zfe zqX9_topWrong.i 33 = some (33, .laload, 1, 0, 0, 0) := rfl
theorem zh_X9_topWrong_34 : zfe zqX9_topWrong.i 34 = some (34, .invokevirtual 185, 3, 65, 3, 7) := rfl
theorem zh_X9_topWrong_37 : zfe zqX9_topWrong.i 37 = some (37, .aload_n 0, 1, 0, 0, 0) := rfl
theorem zh_X9_topWrong_38 : zfe zqX9_topWrong.i 38 = some (38, .getfield 10, 3, 8, 0, 0) := rfl
theorem zh_X9_topWrong_41 : zfe zqX9_topWrong.i 41 = some (41, .getfield 95, 3, 1, 1, 0) := rfl
theorem zh_X9_topWrong_44 : zfe zqX9_topWrong.i 44 = some (44, .iload_n 3, 1, 0, 0, 0) := rfl
theorem zh_X9_topWrong_45 : zfe zqX9_topWrong.i 45 = some (45, .baload, 1, 0, 0, 0) := rfl
theorem zh_X9_topWrong_46 : zfe zqX9_topWrong.i 46 = some (46, .if_icmp .eq 6, 3, 0, 0, 0) := rfl
theorem zh_X9_topWrong_49 : zfe zqX9_topWrong.i 49 = some (49, .iinc 2 1, 3, 0, 0, 0) := rfl
theorem zh_X9_topWrong_52 : zfe zqX9_topWrong.i 52 = some (52, .iinc 3 1, 3, 0, 0, 0) := rfl
theorem zh_X9_topWrong_55 : zfe zqX9_topWrong.i 55 = some (55, .goto (-46), 3, 0, 0, 0) := rfl
theorem zh_X9_topWrong_58 : zfe zqX9_topWrong.i 58 = some (58, .iload_n 2, 1, 0, 0, 0) := rfl
theorem zh_X9_topWrong_59 : zfe zqX9_topWrong.i 59 = some (59, .ireturn, 1, 0, 0, 0) := rfl
theorem ze_X9_topWrong_0 {d : Nat} {f : zF} {m : zM} {x0 : Nat} {a1 a2 a3 : Value} : zex zTb d zqX9_topWrong 0 [.ref x0, a1, a2, a3] [] f m = if zisc (f x0) 8 = true then zcal zTb (zrun zTb d 110 [.ref x0] f m) d zqX9_topWrong 1 4 [.ref x0, a1, a2, a3] [] else none := (zxl_go (x := (1, [.ref x0, a1, a2, a3], [.ref x0], f, m)) zh_X9_topWrong_0 rfl).trans ((zx_virtual4 zh_X9_topWrong_1 (Nat.le_of_ble_eq_true rfl) rfl rfl (Nat.le_of_ble_eq_true rfl)))
theorem ze_X9_topWrong_4 {d : Nat} {f : zF} {m : zM} {a0 a1 a2 a3 : Value} {y0 : Nat} : zex zTb d zqX9_topWrong 4 [a0, a1, a2, a3] [.ref y0] f m = zex zTb d zqX9_topWrong 9 [(zclr a0), .ref y0, .int (I 0), .int (I 0)] [] f m := (zxl_go (x := (5, [(zclr a0), .ref y0, a2, a3], [], f, m)) zh_X9_topWrong_4 rfl).trans ((zx_iconst zh_X9_topWrong_5).trans ((zxl_go (x := (7, [(zclr a0), .ref y0, .int (I 0), a3], [], f, m)) zh_X9_topWrong_6 rfl).trans ((zx_iconst zh_X9_topWrong_7).trans ((zxl_go (x := (9, [(zclr a0), .ref y0, .int (I 0), .int (I 0)], [], f, m)) zh_X9_topWrong_8 rfl)))))
theorem ze_X9_topWrong_9 {d : Nat} {f : zF} {m : zM} {x0 : Nat} {a1 a2 : Value} {x3 : Int32} : zex zTb d zqX9_topWrong 9 [.ref x0, a1, a2, .int x3] [] f m = if zco (f x0) 8 0 = true then zex zTb d zqX9_topWrong 14 [.ref x0, a1, a2, .int x3] [zcf (f x0) 0, .int x3] f m else none := (zxl_go (x := (10, [.ref x0, a1, a2, .int x3], [.int x3], f, m)) zh_X9_topWrong_9 rfl).trans ((zxl_go (x := (11, [.ref x0, a1, a2, .int x3], [.ref x0, .int x3], f, m)) zh_X9_topWrong_10 rfl).trans ((zx_getfield zh_X9_topWrong_11)))
theorem ze_X9_topWrong_14 {d : Nat} {f : zF} {m : zM} {a0 a1 a2 a3 : Value} {y0 : Int32} {y1 : Nat} : zex zTb d zqX9_topWrong 14 [a0, a1, a2, a3] [.ref y1, .int y0] f m = if zco (f y1) 1 2 = true then zex zTb d zqX9_topWrong 17 [a0, a1, a2, a3] [zcf (f y1) 2, .int y0] f m else none := (zx_getfield zh_X9_topWrong_14)
theorem ze_X9_topWrong_17 {d : Nat} {f : zF} {m : zM} {a0 a1 a2 a3 : Value} {y0 y1 : Int32} : zex zTb d zqX9_topWrong 17 [a0, a1, a2, a3] [.int y1, .int y0] f m = if zc2 .ge y0 y1 = true then zex zTb d zqX9_topWrong 58 [a0, a1, a2, a3] [] f m else zex zTb d zqX9_topWrong 20 [a0, a1, a2, a3] [] f m := (zx_icmp (tgt := 58) zh_X9_topWrong_17 rfl)
theorem ze_X9_topWrong_20 {d : Nat} {f : zF} {m : zM} {x0 : Nat} {a1 a2 a3 : Value} : zex zTb d zqX9_topWrong 20 [.ref x0, a1, a2, a3] [] f m = if zco (f x0) 8 3 = true then zex zTb d zqX9_topWrong 24 [.ref x0, a1, a2, a3] [zcf (f x0) 3] f m else none := (zxl_go (x := (21, [.ref x0, a1, a2, a3], [.ref x0], f, m)) zh_X9_topWrong_20 rfl).trans ((zx_getfield zh_X9_topWrong_21))
theorem ze_X9_topWrong_24 {d : Nat} {f : zF} {m : zM} {x0 x1 y0 : Nat} {a2 a3 : Value} : zex zTb d zqX9_topWrong 24 [.ref x0, .ref x1, a2, a3] [.ref y0] f m = if zco (f x0) 8 0 = true then zex zTb d zqX9_topWrong 29 [.ref x0, .ref x1, a2, a3] [zcf (f x0) 0, .ref x1, .ref y0] f m else none := (zxl_go (x := (25, [.ref x0, .ref x1, a2, a3], [.ref x1, .ref y0], f, m)) zh_X9_topWrong_24 rfl).trans ((zxl_go (x := (26, [.ref x0, .ref x1, a2, a3], [.ref x0, .ref x1, .ref y0], f, m)) zh_X9_topWrong_25 rfl).trans ((zx_getfield zh_X9_topWrong_26)))
theorem ze_X9_topWrong_29 {d : Nat} {f : zF} {m : zM} {a0 a1 a2 a3 : Value} {y0 y1 y2 : Nat} : zex zTb d zqX9_topWrong 29 [a0, a1, a2, a3] [.ref y2, .ref y1, .ref y0] f m = if zco (f y2) 1 0 = true then zex zTb d zqX9_topWrong 32 [a0, a1, a2, a3] [zcf (f y2) 0, .ref y1, .ref y0] f m else none := (zx_getfield zh_X9_topWrong_29)
theorem ze_X9_topWrong_32 {d : Nat} {f : zF} {m : zM} {a0 a1 a2 : Value} {x3 : Int32} {y0 y1 y2 : Nat} : zex zTb d zqX9_topWrong 32 [a0, a1, a2, .int x3] [.ref y2, .ref y1, .ref y0] f m = if zrl (f y2) x3 = true then zex zTb d zqX9_topWrong 34 [a0, a1, a2, .int x3] [.long (zgl (f y2) x3.toNatClampNeg), .ref y1, .ref y0] f m else none := (zxl_go (x := (33, [a0, a1, a2, .int x3], [.int x3, .ref y2, .ref y1, .ref y0], f, m)) zh_X9_topWrong_32 rfl).trans ((zx_laload zh_X9_topWrong_33))
theorem ze_X9_topWrong_34 {d : Nat} {f : zF} {m : zM} {a0 a1 a2 a3 : Value} {y0 y1 : Nat} {y2 : Int64} : zex zTb d zqX9_topWrong 34 [a0, a1, a2, a3] [.long y2, .ref y1, .ref y0] f m = if zisc (f y0) 7 = true then zcal zTb (zrun zTb d 65 [.ref y0, .ref y1, .long y2] f m) d zqX9_topWrong 34 37 [a0, a1, a2, a3] [] else none := (zx_virtual4 zh_X9_topWrong_34 (Nat.le_of_ble_eq_true rfl) rfl rfl (Nat.le_of_ble_eq_true rfl))
theorem ze_X9_topWrong_37 {d : Nat} {f : zF} {m : zM} {x0 : Nat} {a1 a2 a3 : Value} {y0 : Int32} : zex zTb d zqX9_topWrong 37 [.ref x0, a1, a2, a3] [.int y0] f m = if zco (f x0) 8 0 = true then zex zTb d zqX9_topWrong 41 [.ref x0, a1, a2, a3] [zcf (f x0) 0, .int y0] f m else none := (zxl_go (x := (38, [.ref x0, a1, a2, a3], [.ref x0, .int y0], f, m)) zh_X9_topWrong_37 rfl).trans ((zx_getfield zh_X9_topWrong_38))
theorem ze_X9_topWrong_41 {d : Nat} {f : zF} {m : zM} {a0 a1 a2 a3 : Value} {y0 : Int32} {y1 : Nat} : zex zTb d zqX9_topWrong 41 [a0, a1, a2, a3] [.ref y1, .int y0] f m = if zco (f y1) 1 1 = true then zex zTb d zqX9_topWrong 44 [a0, a1, a2, a3] [zcf (f y1) 1, .int y0] f m else none := (zx_getfield zh_X9_topWrong_41)
theorem ze_X9_topWrong_44 {d : Nat} {f : zF} {m : zM} {a0 a1 a2 : Value} {x3 y0 : Int32} {y1 : Nat} : zex zTb d zqX9_topWrong 44 [a0, a1, a2, .int x3] [.ref y1, .int y0] f m = if zri (f y1) 2 x3 = true then zex zTb d zqX9_topWrong 46 [a0, a1, a2, .int x3] [.int (zgi (f y1) x3.toNatClampNeg), .int y0] f m else none := (zxl_go (x := (45, [a0, a1, a2, .int x3], [.int x3, .ref y1, .int y0], f, m)) zh_X9_topWrong_44 rfl).trans ((zx_baload zh_X9_topWrong_45))
theorem ze_X9_topWrong_46 {d : Nat} {f : zF} {m : zM} {a0 a1 a2 a3 : Value} {y0 y1 : Int32} : zex zTb d zqX9_topWrong 46 [a0, a1, a2, a3] [.int y1, .int y0] f m = if zc2 .eq y0 y1 = true then zex zTb d zqX9_topWrong 52 [a0, a1, a2, a3] [] f m else zex zTb d zqX9_topWrong 49 [a0, a1, a2, a3] [] f m := (zx_icmp (tgt := 52) zh_X9_topWrong_46 rfl)
theorem ze_X9_topWrong_49 {d : Nat} {f : zF} {m : zM} {a0 a1 : Value} {x2 x3 : Int32} : zex zTb d zqX9_topWrong 49 [a0, a1, .int x2, .int x3] [] f m = zex zTb d zqX9_topWrong 9 [a0, (zclr a1), .int (x2 + I 1), .int (x3 + I 1)] [] f m := (zxl_go (x := (52, [a0, (zclr a1), .int (x2 + I 1), .int x3], [], f, m)) zh_X9_topWrong_49 rfl).trans ((zxl_go (x := (55, [a0, (zclr a1), .int (x2 + I 1), .int (x3 + I 1)], [], f, m)) zh_X9_topWrong_52 rfl).trans ((zx_goto zh_X9_topWrong_55 rfl)))
theorem ze_X9_topWrong_52 {d : Nat} {f : zF} {m : zM} {a0 a1 a2 : Value} {x3 : Int32} : zex zTb d zqX9_topWrong 52 [a0, a1, a2, .int x3] [] f m = zex zTb d zqX9_topWrong 9 [a0, a1, (zclr a2), .int (x3 + I 1)] [] f m := (zxl_go (x := (55, [a0, a1, (zclr a2), .int (x3 + I 1)], [], f, m)) zh_X9_topWrong_52 rfl).trans ((zx_goto zh_X9_topWrong_55 rfl))
theorem ze_X9_topWrong_58 {d : Nat} {f : zF} {m : zM} {a0 a1 a3 : Value} {x2 : Int32} : zex zTb d zqX9_topWrong 58 [a0, a1, .int x2, a3] [] f m = some (.inl (some (.int x2)), f, m) := (zxl_go (x := (59, [a0, a1, .int x2, a3], [.int x2], f, m)) zh_X9_topWrong_58 rfl).trans ((zx_iret zh_X9_topWrong_59 (by first | rfl | decide)))
-- X9_needTop
theorem zh_X9_needTop_0 : zfe zqX9_needTop.i 0 = some (0, .aload_n 0, 1, 0, 0, 0) := rfl
theorem zh_X9_needTop_1 : zfe zqX9_needTop.i 1 = some (1, .getfield 212, 3, 8, 9, 0) := rfl
theorem zh_X9_needTop_4 : zfe zqX9_needTop.i 4 = some (4, .iconst 1, 1, 0, 0, 0) := rfl
theorem zh_X9_needTop_5 : zfe zqX9_needTop.i 5 = some (5, .if_icmp .lt 15, 3, 0, 0, 0) := rfl
theorem zh_X9_needTop_8 : zfe zqX9_needTop.i 8 = some (8, .aload_n 0, 1, 0, 0, 0) := rfl
theorem zh_X9_needTop_9 : zfe zqX9_needTop.i 9 = some (9, .getfield 212, 3, 8, 9, 0) := rfl
theorem zh_X9_needTop_12 : zfe zqX9_needTop.i 12 = some (12, .aload_n 0, 1, 0, 0, 0) := rfl
theorem zh_X9_needTop_13 : zfe zqX9_needTop.i 13 = some (13, .getfield 48, 3, 8, 8, 0) := rfl
theorem zh_X9_needTop_16 : zfe zqX9_needTop.i 16 = some (16, .arraylength, 1, 0, 0, 0) := rfl
theorem zh_X9_needTop_17 : zfe zqX9_needTop.i 17 = some (17, .if_icmp .le 13, 3, 0, 0, 0) := rfl
theorem zh_X9_needTop_20 : zfe zqX9_needTop.i 20 = some (20, .new 73, 3, 1, 244, 77) := rfl
theorem zh_X9_needTop_30 : zfe zqX9_needTop.i 30 = some (30, .aload_n 0, 1, 0, 0, 0) := rfl
theorem zh_X9_needTop_31 : zfe zqX9_needTop.i 31 = some (31, .getfield 48, 3, 8, 8, 0) := rfl
theorem zh_X9_needTop_34 : zfe zqX9_needTop.i 34 = some (34, .aload_n 0, 1, 0, 0, 0) := rfl
theorem zh_X9_needTop_35 : zfe zqX9_needTop.i 35 = some (35, .getfield 212, 3, 8, 9, 0) := rfl
theorem zh_X9_needTop_38 : zfe zqX9_needTop.i 38 = some (38, .iconst 1, 1, 0, 0, 0) := rfl
theorem zh_X9_needTop_39 : zfe zqX9_needTop.i 39 = some (39, .isub, 1, 0, 0, 0) := rfl
theorem zh_X9_needTop_40 : zfe zqX9_needTop.i 40 = some (40, .aaload, 1, 0, 0, 0) := rfl
theorem zh_X9_needTop_41 : zfe zqX9_needTop.i 41 = some (41, .areturn, 1, 0, 0, 0) := rfl
theorem ze_X9_needTop_0 {d : Nat} {f : zF} {m : zM} {x0 : Nat} : zex zTb d zqX9_needTop 0 [.ref x0] [] f m = if zco (f x0) 8 9 = true then zex zTb d zqX9_needTop 4 [.ref x0] [zcf (f x0) 9] f m else none := (zxl_go (x := (1, [.ref x0], [.ref x0], f, m)) zh_X9_needTop_0 rfl).trans ((zx_getfield zh_X9_needTop_1))
theorem ze_X9_needTop_4 {d : Nat} {f : zF} {m : zM} {a0 : Value} {y0 : Int32} : zex zTb d zqX9_needTop 4 [a0] [.int y0] f m = if zc2 .lt y0 (I 1) = true then zex zTb d zqX9_needTop 20 [a0] [] f m else zex zTb d zqX9_needTop 8 [a0] [] f m := (zx_iconst zh_X9_needTop_4).trans ((zx_icmp (tgt := 20) zh_X9_needTop_5 rfl))
theorem ze_X9_needTop_8 {d : Nat} {f : zF} {m : zM} {x0 : Nat} : zex zTb d zqX9_needTop 8 [.ref x0] [] f m = if zco (f x0) 8 9 = true then zex zTb d zqX9_needTop 12 [.ref x0] [zcf (f x0) 9] f m else none := (zxl_go (x := (9, [.ref x0], [.ref x0], f, m)) zh_X9_needTop_8 rfl).trans ((zx_getfield zh_X9_needTop_9))
theorem ze_X9_needTop_12 {d : Nat} {f : zF} {m : zM} {x0 : Nat} {y0 : Int32} : zex zTb d zqX9_needTop 12 [.ref x0] [.int y0] f m = if zco (f x0) 8 8 = true then zex zTb d zqX9_needTop 16 [.ref x0] [zcf (f x0) 8, .int y0] f m else none := (zxl_go (x := (13, [.ref x0], [.ref x0, .int y0], f, m)) zh_X9_needTop_12 rfl).trans ((zx_getfield zh_X9_needTop_13))
theorem ze_X9_needTop_16 {d : Nat} {f : zF} {m : zM} {a0 : Value} {y0 : Int32} {y1 : Nat} : zex zTb d zqX9_needTop 16 [a0] [.ref y1, .int y0] f m = if zisa (f y1) = true then zex zTb d zqX9_needTop 17 [a0] [.int (Int32.ofNat (zln (f y1))), .int y0] f m else none := (zx_alen zh_X9_needTop_16)
theorem ze_X9_needTop_17 {d : Nat} {f : zF} {m : zM} {a0 : Value} {y0 y1 : Int32} : zex zTb d zqX9_needTop 17 [a0] [.int y1, .int y0] f m = if zc2 .le y0 y1 = true then zex zTb d zqX9_needTop 30 [a0] [] f m else zex zTb d zqX9_needTop 20 [a0] [] f m := (zx_icmp (tgt := 30) zh_X9_needTop_17 rfl)
theorem ze_X9_needTop_20 {d : Nat} {f : zF} {m : zM} {a0 : Value} : zex zTb d zqX9_needTop 20 [a0] [] f m = some (.inr 1, f, (none, m.2.1 + 1, m.2.2 + 6)) := (zx_throw zh_X9_needTop_20 (Nat.le_of_ble_eq_true rfl))
theorem ze_X9_needTop_30 {d : Nat} {f : zF} {m : zM} {x0 : Nat} : zex zTb d zqX9_needTop 30 [.ref x0] [] f m = if zco (f x0) 8 8 = true then zex zTb d zqX9_needTop 34 [.ref x0] [zcf (f x0) 8] f m else none := (zxl_go (x := (31, [.ref x0], [.ref x0], f, m)) zh_X9_needTop_30 rfl).trans ((zx_getfield zh_X9_needTop_31))
theorem ze_X9_needTop_34 {d : Nat} {f : zF} {m : zM} {x0 y0 : Nat} : zex zTb d zqX9_needTop 34 [.ref x0] [.ref y0] f m = if zco (f x0) 8 9 = true then zex zTb d zqX9_needTop 38 [.ref x0] [zcf (f x0) 9, .ref y0] f m else none := (zxl_go (x := (35, [.ref x0], [.ref x0, .ref y0], f, m)) zh_X9_needTop_34 rfl).trans ((zx_getfield zh_X9_needTop_35))
theorem ze_X9_needTop_38 {d : Nat} {f : zF} {m : zM} {a0 : Value} {y0 : Nat} {y1 : Int32} : zex zTb d zqX9_needTop 38 [a0] [.int y1, .ref y0] f m = if zrq (f y0) (y1 - (I 1)) = true then zex zTb d zqX9_needTop 41 [a0] [.ref (zgq (f y0) (y1 - (I 1)).toNatClampNeg)] f m else none := (zx_iconst zh_X9_needTop_38).trans ((zxl_go (x := (40, [a0], [.int (y1 - (I 1)), .ref y0], f, m)) zh_X9_needTop_39 rfl).trans ((zx_aaload zh_X9_needTop_40)))
theorem ze_X9_needTop_41 {d : Nat} {f : zF} {m : zM} {a0 : Value} {y0 : Nat} : zex zTb d zqX9_needTop 41 [a0] [.ref y0] f m = some (.inl (some (.ref y0)), f, m) := (zx_aret zh_X9_needTop_41 rfl)
-- X9_digest
theorem zh_X9_digest_0 : zfe zqX9_digest.i 0 = some (0, .ldc2_w 249, 3, 167, 0, 0) := rfl
theorem zh_X9_digest_3 : zfe zqX9_digest.i 3 = some (3, .lstore_n 1, 1, 0, 0, 0) := rfl
theorem zh_X9_digest_4 : zfe zqX9_digest.i 4 = some (4, .lload_n 1, 1, 0, 0, 0) := rfl
theorem zh_X9_digest_5 : zfe zqX9_digest.i 5 = some (5, .ldc2_w 251, 3, 31, 0, 0) := rfl
theorem zh_X9_digest_8 : zfe zqX9_digest.i 8 = some (8, .lmul, 1, 0, 0, 0) := rfl
theorem zh_X9_digest_9 : zfe zqX9_digest.i 9 = some (9, .aload_n 0, 1, 0, 0, 0) := rfl
theorem zh_X9_digest_10 : zfe zqX9_digest.i 10 = some (10, .getfield 10, 3, 8, 0, 0) := rfl
theorem zh_X9_digest_13 : zfe zqX9_digest.i 13 = some (13, .getfield 82, 3, 1, 2, 0) := rfl
theorem zh_X9_digest_16 : zfe zqX9_digest.i 16 = some (16, .i2l, 1, 0, 0, 0) := rfl
theorem zh_X9_digest_17 : zfe zqX9_digest.i 17 = some (17, .ladd, 1, 0, 0, 0) := rfl
theorem zh_X9_digest_18 : zfe zqX9_digest.i 18 = some (18, .lstore_n 1, 1, 0, 0, 0) := rfl
theorem zh_X9_digest_19 : zfe zqX9_digest.i 19 = some (19, .iconst 0, 1, 0, 0, 0) := rfl
theorem zh_X9_digest_20 : zfe zqX9_digest.i 20 = some (20, .istore_n 3, 1, 0, 0, 0) := rfl
theorem zh_X9_digest_21 : zfe zqX9_digest.i 21 = some (21, .iload_n 3, 1, 0, 0, 0) := rfl
theorem zh_X9_digest_22 : zfe zqX9_digest.i 22 = some (22, .aload_n 0, 1, 0, 0, 0) := rfl
theorem zh_X9_digest_23 : zfe zqX9_digest.i 23 = some (23, .getfield 10, 3, 8, 0, 0) := rfl
theorem zh_X9_digest_26 : zfe zqX9_digest.i 26 = some (26, .getfield 82, 3, 1, 2, 0) := rfl
theorem zh_X9_digest_29 : zfe zqX9_digest.i 29 = some (29, .if_icmp .ge 50, 3, 0, 0, 0) := rfl
theorem zh_X9_digest_32 : zfe zqX9_digest.i 32 = some (32, .lload_n 1, 1, 0, 0, 0) := rfl
theorem zh_X9_digest_33 : zfe zqX9_digest.i 33 = some (33, .ldc2_w 251, 3, 31, 0, 0) := rfl
theorem zh_X9_digest_36 : zfe zqX9_digest.i 36 = some (36, .lmul, 1, 0, 0, 0) := rfl
theorem zh_X9_digest_37 : zfe zqX9_digest.i 37 = some (37, .aload_n 0, 1, 0, 0, 0) := rfl
theorem zh_X9_digest_38 : zfe zqX9_digest.i 38 = some (38, .getfield 10, 3, 8, 0, 0) := rfl
theorem zh_X9_digest_41 : zfe zqX9_digest.i 41 = some (41, .getfield 108, 3, 1, 0, 0) := rfl
theorem zh_X9_digest_44 : zfe zqX9_digest.i 44 = some (44, .iload_n 3, 1, 0, 0, 0) := rfl
theorem zh_X9_digest_45 : zfe zqX9_digest.i 45 = some (45, .laload, 1, 0, 0, 0) := rfl
theorem zh_X9_digest_46 : zfe zqX9_digest.i 46 = some (46, .ladd, 1, 0, 0, 0) := rfl
theorem zh_X9_digest_47 : zfe zqX9_digest.i 47 = some (47, .lstore_n 1, 1, 0, 0, 0) := rfl
theorem zh_X9_digest_48 : zfe zqX9_digest.i 48 = some (48, .lload_n 1, 1, 0, 0, 0) := rfl
theorem zh_X9_digest_49 : zfe zqX9_digest.i 49 = some (49, .ldc2_w 251, 3, 31, 0, 0) := rfl
theorem zh_X9_digest_52 : zfe zqX9_digest.i 52 = some (52, .lmul, 1, 0, 0, 0) := rfl
theorem zh_X9_digest_53 : zfe zqX9_digest.i 53 = some (53, .aload_n 0, 1, 0, 0, 0) := rfl
theorem zh_X9_digest_54 : zfe zqX9_digest.i 54 = some (54, .getfield 10, 3, 8, 0, 0) := rfl
theorem zh_X9_digest_57 : zfe zqX9_digest.i 57 = some (57, .getfield 95, 3, 1, 1, 0) := rfl
theorem zh_X9_digest_60 : zfe zqX9_digest.i 60 = some (60, .iload_n 3, 1, 0, 0, 0) := rfl
theorem zh_X9_digest_61 : zfe zqX9_digest.i 61 = some (61, .baload, 1, 0, 0, 0) := rfl
theorem zh_X9_digest_62 : zfe zqX9_digest.i 62 = some (62, .ifCond .eq 7, 3, 0, 0, 0) := rfl
theorem zh_X9_digest_65 : zfe zqX9_digest.i 65 = some (65, .iconst 1, 1, 0, 0, 0) := rfl
theorem zh_X9_digest_66 : zfe zqX9_digest.i 66 = some (66, .goto 4, 3, 0, 0, 0) := rfl
theorem zh_X9_digest_69 : zfe zqX9_digest.i 69 = some (69, .iconst 0, 1, 0, 0, 0) := rfl
theorem zh_X9_digest_70 : zfe zqX9_digest.i 70 = some (70, .i2l, 1, 0, 0, 0) := rfl
theorem zh_X9_digest_71 : zfe zqX9_digest.i 71 = some (71, .ladd, 1, 0, 0, 0) := rfl
theorem zh_X9_digest_72 : zfe zqX9_digest.i 72 = some (72, .lstore_n 1, 1, 0, 0, 0) := rfl
theorem zh_X9_digest_73 : zfe zqX9_digest.i 73 = some (73, .iinc 3 1, 3, 0, 0, 0) := rfl
theorem zh_X9_digest_76 : zfe zqX9_digest.i 76 = some (76, .goto (-55), 3, 0, 0, 0) := rfl
theorem zh_X9_digest_79 : zfe zqX9_digest.i 79 = some (79, .iconst 0, 1, 0, 0, 0) := rfl
theorem zh_X9_digest_80 : zfe zqX9_digest.i 80 = some (80, .istore_n 3, 1, 0, 0, 0) := rfl
theorem zh_X9_digest_81 : zfe zqX9_digest.i 81 = some (81, .iload_n 3, 1, 0, 0, 0) := rfl
theorem zh_X9_digest_82 : zfe zqX9_digest.i 82 = some (82, .aload_n 0, 1, 0, 0, 0) := rfl
theorem zh_X9_digest_83 : zfe zqX9_digest.i 83 = some (83, .getfield 16, 3, 8, 1, 0) := rfl
theorem zh_X9_digest_86 : zfe zqX9_digest.i 86 = some (86, .arraylength, 1, 0, 0, 0) := rfl
theorem zh_X9_digest_87 : zfe zqX9_digest.i 87 = some (87, .if_icmp .ge 23, 3, 0, 0, 0) := rfl
theorem zh_X9_digest_90 : zfe zqX9_digest.i 90 = some (90, .lload_n 1, 1, 0, 0, 0) := rfl
theorem zh_X9_digest_91 : zfe zqX9_digest.i 91 = some (91, .ldc2_w 251, 3, 31, 0, 0) := rfl
theorem zh_X9_digest_94 : zfe zqX9_digest.i 94 = some (94, .lmul, 1, 0, 0, 0) := rfl
theorem zh_X9_digest_95 : zfe zqX9_digest.i 95 = some (95, .aload_n 0, 1, 0, 0, 0) := rfl
theorem zh_X9_digest_96 : zfe zqX9_digest.i 96 = some (96, .getfield 16, 3, 8, 1, 0) := rfl
theorem zh_X9_digest_99 : zfe zqX9_digest.i 99 = some (99, .iload_n 3, 1, 0, 0, 0) := rfl
theorem zh_X9_digest_100 : zfe zqX9_digest.i 100 = some (100, .iaload, 1, 0, 0, 0) := rfl
theorem zh_X9_digest_101 : zfe zqX9_digest.i 101 = some (101, .i2l, 1, 0, 0, 0) := rfl
theorem zh_X9_digest_102 : zfe zqX9_digest.i 102 = some (102, .ladd, 1, 0, 0, 0) := rfl
theorem zh_X9_digest_103 : zfe zqX9_digest.i 103 = some (103, .lstore_n 1, 1, 0, 0, 0) := rfl
theorem zh_X9_digest_104 : zfe zqX9_digest.i 104 = some (104, .iinc 3 1, 3, 0, 0, 0) := rfl
theorem zh_X9_digest_107 : zfe zqX9_digest.i 107 = some (107, .goto (-26), 3, 0, 0, 0) := rfl
theorem zh_X9_digest_110 : zfe zqX9_digest.i 110 = some (110, .lload_n 1, 1, 0, 0, 0) := rfl
theorem zh_X9_digest_111 : zfe zqX9_digest.i 111 = some (111, .ldc2_w 251, 3, 31, 0, 0) := rfl
theorem zh_X9_digest_114 : zfe zqX9_digest.i 114 = some (114, .lmul, 1, 0, 0, 0) := rfl
theorem zh_X9_digest_115 : zfe zqX9_digest.i 115 = some (115, .aload_n 0, 1, 0, 0, 0) := rfl
theorem zh_X9_digest_116 : zfe zqX9_digest.i 116 = some (116, .getfield 10, 3, 8, 0, 0) := rfl
theorem zh_X9_digest_119 : zfe zqX9_digest.i 119 = some (119, .getfield 112, 3, 1, 3, 0) := rfl
theorem zh_X9_digest_122 : zfe zqX9_digest.i 122 = some (122, .getfield 116, 3, 3, 1, 0) := rfl
theorem zh_X9_digest_125 : zfe zqX9_digest.i 125 = some (125, .i2l, 1, 0, 0, 0) := rfl
theorem zh_X9_digest_126 : zfe zqX9_digest.i 126 = some (126, .ladd, 1, 0, 0, 0) := rfl
theorem zh_X9_digest_127 : zfe zqX9_digest.i 127 = some (127, .lstore_n 1, 1, 0, 0, 0) := rfl
theorem zh_X9_digest_128 : zfe zqX9_digest.i 128 = some (128, .lload_n 1, 1, 0, 0, 0) := rfl
theorem zh_X9_digest_129 : zfe zqX9_digest.i 129 = some (129, .ldc2_w 251, 3, 31, 0, 0) := rfl
theorem zh_X9_digest_132 : zfe zqX9_digest.i 132 = some (132, .lmul, 1, 0, 0, 0) := rfl
theorem zh_X9_digest_133 : zfe zqX9_digest.i 133 = some (133, .aload_n 0, 1, 0, 0, 0) := rfl
theorem zh_X9_digest_134 : zfe zqX9_digest.i 134 = some (134, .getfield 78, 3, 8, 4, 0) := rfl
theorem zh_X9_digest_137 : zfe zqX9_digest.i 137 = some (137, .ifCond .eq 7, 3, 0, 0, 0) := rfl
theorem zh_X9_digest_140 : zfe zqX9_digest.i 140 = some (140, .iconst 1, 1, 0, 0, 0) := rfl
theorem zh_X9_digest_141 : zfe zqX9_digest.i 141 = some (141, .goto 4, 3, 0, 0, 0) := rfl
theorem zh_X9_digest_144 : zfe zqX9_digest.i 144 = some (144, .iconst 0, 1, 0, 0, 0) := rfl
theorem zh_X9_digest_145 : zfe zqX9_digest.i 145 = some (145, .i2l, 1, 0, 0, 0) := rfl
theorem zh_X9_digest_146 : zfe zqX9_digest.i 146 = some (146, .ladd, 1, 0, 0, 0) := rfl
theorem zh_X9_digest_147 : zfe zqX9_digest.i 147 = some (147, .lstore_n 1, 1, 0, 0, 0) := rfl
theorem zh_X9_digest_148 : zfe zqX9_digest.i 148 = some (148, .aload_n 0, 1, 0, 0, 0) := rfl
theorem zh_X9_digest_149 : zfe zqX9_digest.i 149 = some (149, .getfield 78, 3, 8, 4, 0) := rfl
theorem zh_X9_digest_152 : zfe zqX9_digest.i 152 = some (152, .ifCond .eq 53, 3, 0, 0, 0) := rfl
theorem zh_X9_digest_155 : zfe zqX9_digest.i 155 = some (155, .lload_n 1, 1, 0, 0, 0) := rfl
theorem zh_X9_digest_156 : zfe zqX9_digest.i 156 = some (156, .ldc2_w 251, 3, 31, 0, 0) := rfl
theorem zh_X9_digest_159 : zfe zqX9_digest.i 159 = some (159, .lmul, 1, 0, 0, 0) := rfl
theorem zh_X9_digest_160 : zfe zqX9_digest.i 160 = some (160, .aload_n 0, 1, 0, 0, 0) := rfl
theorem zh_X9_digest_161 : zfe zqX9_digest.i 161 = some (161, .getfield 37, 3, 8, 5, 0) := rfl
theorem zh_X9_digest_164 : zfe zqX9_digest.i 164 = some (164, .getfield 159, 3, 2, 3, 0) := rfl
theorem zh_X9_digest_167 : zfe zqX9_digest.i 167 = some (167, .i2l, 1, 0, 0, 0) := rfl
theorem zh_X9_digest_168 : zfe zqX9_digest.i 168 = some (168, .ladd, 1, 0, 0, 0) := rfl
theorem zh_X9_digest_169 : zfe zqX9_digest.i 169 = some (169, .lstore_n 1, 1, 0, 0, 0) := rfl
theorem zh_X9_digest_170 : zfe zqX9_digest.i 170 = some (170, .iconst 0, 1, 0, 0, 0) := rfl
theorem zh_X9_digest_171 : zfe zqX9_digest.i 171 = some (171, .istore_n 3, 1, 0, 0, 0) := rfl
theorem zh_X9_digest_172 : zfe zqX9_digest.i 172 = some (172, .iload_n 3, 1, 0, 0, 0) := rfl
theorem zh_X9_digest_173 : zfe zqX9_digest.i 173 = some (173, .aload_n 0, 1, 0, 0, 0) := rfl
theorem zh_X9_digest_174 : zfe zqX9_digest.i 174 = some (174, .getfield 37, 3, 8, 5, 0) := rfl
theorem zh_X9_digest_177 : zfe zqX9_digest.i 177 = some (177, .getfield 159, 3, 2, 3, 0) := rfl
theorem zh_X9_digest_180 : zfe zqX9_digest.i 180 = some (180, .if_icmp .ge 25, 3, 0, 0, 0) := rfl
theorem zh_X9_digest_183 : zfe zqX9_digest.i 183 = some (183, .lload_n 1, 1, 0, 0, 0) := rfl
theorem zh_X9_digest_184 : zfe zqX9_digest.i 184 = some (184, .ldc2_w 251, 3, 31, 0, 0) := rfl
theorem zh_X9_digest_187 : zfe zqX9_digest.i 187 = some (187, .lmul, 1, 0, 0, 0) := rfl
theorem zh_X9_digest_188 : zfe zqX9_digest.i 188 = some (188, .aload_n 0, 1, 0, 0, 0) := rfl
theorem zh_X9_digest_189 : zfe zqX9_digest.i 189 = some (189, .getfield 37, 3, 8, 5, 0) := rfl
theorem zh_X9_digest_192 : zfe zqX9_digest.i 192 = some (192, .iload_n 3, 1, 0, 0, 0) := rfl
theorem zh_X9_digest_193 : zfe zqX9_digest.i 193 = some (193, .invokevirtual 164, 3, 12, 2, 2) := rfl
theorem zh_X9_digest_196 : zfe zqX9_digest.i 196 = some (196, .i2l, 1, 0, 0, 0) := rfl
theorem zh_X9_digest_197 : zfe zqX9_digest.i 197 = some (197, .ladd, 1, 0, 0, 0) := rfl
theorem zh_X9_digest_198 : zfe zqX9_digest.i 198 = some (198, .lstore_n 1, 1, 0, 0, 0) := rfl
theorem zh_X9_digest_199 : zfe zqX9_digest.i 199 = some (199, .iinc 3 1, 3, 0, 0, 0) := rfl
theorem zh_X9_digest_202 : zfe zqX9_digest.i 202 = some (202, .goto (-30), 3, 0, 0, 0) := rfl
theorem zh_X9_digest_205 : zfe zqX9_digest.i 205 = some (205, .lload_n 1, 1, 0, 0, 0) := rfl
theorem zh_X9_digest_206 : zfe zqX9_digest.i 206 = some (206, .ldc2_w 251, 3, 31, 0, 0) := rfl
theorem zh_X9_digest_209 : zfe zqX9_digest.i 209 = some (209, .lmul, 1, 0, 0, 0) := rfl
theorem zh_X9_digest_210 : zfe zqX9_digest.i 210 = some (210, .aload_n 0, 1, 0, 0, 0) := rfl
theorem zh_X9_digest_211 : zfe zqX9_digest.i 211 = some (211, .getfield 212, 3, 8, 9, 0) := rfl
theorem zh_X9_digest_214 : zfe zqX9_digest.i 214 = some (214, .i2l, 1, 0, 0, 0) := rfl
theorem zh_X9_digest_215 : zfe zqX9_digest.i 215 = some (215, .ladd, 1, 0, 0, 0) := rfl
theorem zh_X9_digest_216 : zfe zqX9_digest.i 216 = some (216, .lstore_n 1, 1, 0, 0, 0) := rfl
theorem zh_X9_digest_217 : zfe zqX9_digest.i 217 = some (217, .iconst 0, 1, 0, 0, 0) := rfl
theorem zh_X9_digest_218 : zfe zqX9_digest.i 218 = some (218, .istore_n 3, 1, 0, 0, 0) := rfl
theorem zh_X9_digest_219 : zfe zqX9_digest.i 219 = some (219, .iload_n 3, 1, 0, 0, 0) := rfl
theorem zh_X9_digest_220 : zfe zqX9_digest.i 220 = some (220, .aload_n 0, 1, 0, 0, 0) := rfl
theorem zh_X9_digest_221 : zfe zqX9_digest.i 221 = some (221, .getfield 212, 3, 8, 9, 0) := rfl
theorem zh_X9_digest_224 : zfe zqX9_digest.i 224 = some (224, .if_icmp .ge 30, 3, 0, 0, 0) := rfl
theorem zh_X9_digest_227 : zfe zqX9_digest.i 227 = some (227, .lload_n 1, 1, 0, 0, 0) := rfl
theorem zh_X9_digest_228 : zfe zqX9_digest.i 228 = some (228, .ldc2_w 251, 3, 31, 0, 0) := rfl
theorem zh_X9_digest_231 : zfe zqX9_digest.i 231 = some (231, .lmul, 1, 0, 0, 0) := rfl
theorem zh_X9_digest_232 : zfe zqX9_digest.i 232 = some (232, .aload_n 0, 1, 0, 0, 0) := rfl
theorem zh_X9_digest_233 : zfe zqX9_digest.i 233 = some (233, .getfield 48, 3, 8, 8, 0) := rfl
theorem zh_X9_digest_236 : zfe zqX9_digest.i 236 = some (236, .iload_n 3, 1, 0, 0, 0) := rfl
theorem zh_X9_digest_237 : zfe zqX9_digest.i 237 = some (237, .aaload, 1, 0, 0, 0) := rfl
theorem zh_X9_digest_238 : zfe zqX9_digest.i 238 = some (238, .aload_n 0, 1, 0, 0, 0) := rfl
theorem zh_X9_digest_239 : zfe zqX9_digest.i 239 = some (239, .getfield 16, 3, 8, 1, 0) := rfl
theorem zh_X9_digest_242 : zfe zqX9_digest.i 242 = some (242, .invokevirtual 245, 3, 15, 2, 2) := rfl
theorem zh_X9_digest_245 : zfe zqX9_digest.i 245 = some (245, .i2l, 1, 0, 0, 0) := rfl
theorem zh_X9_digest_246 : zfe zqX9_digest.i 246 = some (246, .ladd, 1, 0, 0, 0) := rfl
theorem zh_X9_digest_247 : zfe zqX9_digest.i 247 = some (247, .lstore_n 1, 1, 0, 0, 0) := rfl
theorem zh_X9_digest_248 : zfe zqX9_digest.i 248 = some (248, .iinc 3 1, 3, 0, 0, 0) := rfl
theorem zh_X9_digest_251 : zfe zqX9_digest.i 251 = some (251, .goto (-32), 3, 0, 0, 0) := rfl
theorem zh_X9_digest_254 : zfe zqX9_digest.i 254 = some (254, .lload_n 1, 1, 0, 0, 0) := rfl
theorem zh_X9_digest_255 : zfe zqX9_digest.i 255 = some (255, .lreturn, 1, 0, 0, 0) := rfl
theorem ze_X9_digest_0 {d : Nat} {f : zF} {m : zM} {x0 : Nat} {a1 a2 a3 : Value} : zex zTb d zqX9_digest 0 [.ref x0, a1, a2, a3] [] f m = if zco (f x0) 8 0 = true then zex zTb d zqX9_digest 13 [.ref x0, .long (J 167), .null, a3] [zcf (f x0) 0, .long ((J 167) * (J 31))] f m else none := (zx_ldc2 (v := 167) zh_X9_digest_0 (by decide)).trans ((zxl_go (x := (4, [.ref x0, .long (J 167), .null, a3], [], f, m)) zh_X9_digest_3 rfl).trans ((zxl_go (x := (5, [.ref x0, .long (J 167), .null, a3], [.long (J 167)], f, m)) zh_X9_digest_4 rfl).trans ((zx_ldc2 (v := 31) zh_X9_digest_5 (by decide)).trans ((zxl_go (x := (9, [.ref x0, .long (J 167), .null, a3], [.long ((J 167) * (J 31))], f, m)) zh_X9_digest_8 rfl).trans ((zxl_go (x := (10, [.ref x0, .long (J 167), .null, a3], [.ref x0, .long ((J 167) * (J 31))], f, m)) zh_X9_digest_9 rfl).trans ((zx_getfield zh_X9_digest_10)))))))
theorem ze_X9_digest_13 {d : Nat} {f : zF} {m : zM} {a0 a1 a2 a3 : Value} {y0 : Int64} {y1 : Nat} : zex zTb d zqX9_digest 13 [a0, a1, a2, a3] [.ref y1, .long y0] f m = if zco (f y1) 1 2 = true then zex zTb d zqX9_digest 16 [a0, a1, a2, a3] [zcf (f y1) 2, .long y0] f m else none := (zx_getfield zh_X9_digest_13)
theorem ze_X9_digest_16 {d : Nat} {f : zF} {m : zM} {a0 a1 a2 a3 : Value} {y0 : Int64} {y1 : Int32} : zex zTb d zqX9_digest 16 [a0, a1, a2, a3] [.int y1, .long y0] f m = zex zTb d zqX9_digest 21 [(zclr a0), .long (y0 + (y1.toInt64)), .null, .int (I 0)] [] f m := (zxl_go (x := (17, [a0, a1, a2, a3], [.long (y1.toInt64), .long y0], f, m)) zh_X9_digest_16 rfl).trans ((zxl_go (x := (18, [a0, a1, a2, a3], [.long (y0 + (y1.toInt64))], f, m)) zh_X9_digest_17 rfl).trans ((zxl_go (x := (19, [(zclr a0), .long (y0 + (y1.toInt64)), .null, a3], [], f, m)) zh_X9_digest_18 rfl).trans ((zx_iconst zh_X9_digest_19).trans ((zxl_go (x := (21, [(zclr a0), .long (y0 + (y1.toInt64)), .null, .int (I 0)], [], f, m)) zh_X9_digest_20 rfl)))))
theorem ze_X9_digest_21 {d : Nat} {f : zF} {m : zM} {x0 : Nat} {a1 a2 : Value} {x3 : Int32} : zex zTb d zqX9_digest 21 [.ref x0, a1, a2, .int x3] [] f m = if zco (f x0) 8 0 = true then zex zTb d zqX9_digest 26 [.ref x0, a1, a2, .int x3] [zcf (f x0) 0, .int x3] f m else none := (zxl_go (x := (22, [.ref x0, a1, a2, .int x3], [.int x3], f, m)) zh_X9_digest_21 rfl).trans ((zxl_go (x := (23, [.ref x0, a1, a2, .int x3], [.ref x0, .int x3], f, m)) zh_X9_digest_22 rfl).trans ((zx_getfield zh_X9_digest_23)))
theorem ze_X9_digest_26 {d : Nat} {f : zF} {m : zM} {a0 a1 a2 a3 : Value} {y0 : Int32} {y1 : Nat} : zex zTb d zqX9_digest 26 [a0, a1, a2, a3] [.ref y1, .int y0] f m = if zco (f y1) 1 2 = true then zex zTb d zqX9_digest 29 [a0, a1, a2, a3] [zcf (f y1) 2, .int y0] f m else none := (zx_getfield zh_X9_digest_26)
theorem ze_X9_digest_29 {d : Nat} {f : zF} {m : zM} {a0 a1 a2 a3 : Value} {y0 y1 : Int32} : zex zTb d zqX9_digest 29 [a0, a1, a2, a3] [.int y1, .int y0] f m = if zc2 .ge y0 y1 = true then zex zTb d zqX9_digest 79 [a0, a1, a2, a3] [] f m else zex zTb d zqX9_digest 32 [a0, a1, a2, a3] [] f m := (zx_icmp (tgt := 79) zh_X9_digest_29 rfl)
theorem ze_X9_digest_32 {d : Nat} {f : zF} {m : zM} {x0 : Nat} {x1 : Int64} {a2 a3 : Value} : zex zTb d zqX9_digest 32 [.ref x0, .long x1, a2, a3] [] f m = if zco (f x0) 8 0 = true then zex zTb d zqX9_digest 41 [.ref x0, .long x1, a2, a3] [zcf (f x0) 0, .long (x1 * (J 31))] f m else none := (zxl_go (x := (33, [.ref x0, .long x1, a2, a3], [.long x1], f, m)) zh_X9_digest_32 rfl).trans ((zx_ldc2 (v := 31) zh_X9_digest_33 (by decide)).trans ((zxl_go (x := (37, [.ref x0, .long x1, a2, a3], [.long (x1 * (J 31))], f, m)) zh_X9_digest_36 rfl).trans ((zxl_go (x := (38, [.ref x0, .long x1, a2, a3], [.ref x0, .long (x1 * (J 31))], f, m)) zh_X9_digest_37 rfl).trans ((zx_getfield zh_X9_digest_38)))))
theorem ze_X9_digest_41 {d : Nat} {f : zF} {m : zM} {a0 a1 a2 a3 : Value} {y0 : Int64} {y1 : Nat} : zex zTb d zqX9_digest 41 [a0, a1, a2, a3] [.ref y1, .long y0] f m = if zco (f y1) 1 0 = true then zex zTb d zqX9_digest 44 [a0, a1, a2, a3] [zcf (f y1) 0, .long y0] f m else none := (zx_getfield zh_X9_digest_41)
theorem ze_X9_digest_44 {d : Nat} {f : zF} {m : zM} {a0 a1 a2 : Value} {x3 : Int32} {y0 : Int64} {y1 : Nat} : zex zTb d zqX9_digest 44 [a0, a1, a2, .int x3] [.ref y1, .long y0] f m = if zrl (f y1) x3 = true then zex zTb d zqX9_digest 46 [a0, a1, a2, .int x3] [.long (zgl (f y1) x3.toNatClampNeg), .long y0] f m else none := (zxl_go (x := (45, [a0, a1, a2, .int x3], [.int x3, .ref y1, .long y0], f, m)) zh_X9_digest_44 rfl).trans ((zx_laload zh_X9_digest_45))
theorem ze_X9_digest_46 {d : Nat} {f : zF} {m : zM} {x0 : Nat} {a1 a2 a3 : Value} {y0 y1 : Int64} : zex zTb d zqX9_digest 46 [.ref x0, a1, a2, a3] [.long y1, .long y0] f m = if zco (f x0) 8 0 = true then zex zTb d zqX9_digest 57 [.ref x0, .long (y0 + y1), .null, a3] [zcf (f x0) 0, .long ((y0 + y1) * (J 31))] f m else none := (zxl_go (x := (47, [.ref x0, a1, a2, a3], [.long (y0 + y1)], f, m)) zh_X9_digest_46 rfl).trans ((zxl_go (x := (48, [.ref x0, .long (y0 + y1), .null, a3], [], f, m)) zh_X9_digest_47 rfl).trans ((zxl_go (x := (49, [.ref x0, .long (y0 + y1), .null, a3], [.long (y0 + y1)], f, m)) zh_X9_digest_48 rfl).trans ((zx_ldc2 (v := 31) zh_X9_digest_49 (by decide)).trans ((zxl_go (x := (53, [.ref x0, .long (y0 + y1), .null, a3], [.long ((y0 + y1) * (J 31))], f, m)) zh_X9_digest_52 rfl).trans ((zxl_go (x := (54, [.ref x0, .long (y0 + y1), .null, a3], [.ref x0, .long ((y0 + y1) * (J 31))], f, m)) zh_X9_digest_53 rfl).trans ((zx_getfield zh_X9_digest_54)))))))
theorem ze_X9_digest_57 {d : Nat} {f : zF} {m : zM} {a0 a1 a2 a3 : Value} {y0 : Int64} {y1 : Nat} : zex zTb d zqX9_digest 57 [a0, a1, a2, a3] [.ref y1, .long y0] f m = if zco (f y1) 1 1 = true then zex zTb d zqX9_digest 60 [a0, a1, a2, a3] [zcf (f y1) 1, .long y0] f m else none := (zx_getfield zh_X9_digest_57)
theorem ze_X9_digest_60 {d : Nat} {f : zF} {m : zM} {a0 a1 a2 : Value} {x3 : Int32} {y0 : Int64} {y1 : Nat} : zex zTb d zqX9_digest 60 [a0, a1, a2, .int x3] [.ref y1, .long y0] f m = if zri (f y1) 2 x3 = true then zex zTb d zqX9_digest 62 [a0, a1, a2, .int x3] [.int (zgi (f y1) x3.toNatClampNeg), .long y0] f m else none := (zxl_go (x := (61, [a0, a1, a2, .int x3], [.int x3, .ref y1, .long y0], f, m)) zh_X9_digest_60 rfl).trans ((zx_baload zh_X9_digest_61))
theorem ze_X9_digest_62 {d : Nat} {f : zF} {m : zM} {a0 a1 a2 a3 : Value} {y0 : Int64} {y1 : Int32} : zex zTb d zqX9_digest 62 [a0, a1, a2, a3] [.int y1, .long y0] f m = if zc1 .eq y1 = true then zex zTb d zqX9_digest 69 [a0, a1, a2, a3] [.long y0] f m else zex zTb d zqX9_digest 65 [a0, a1, a2, a3] [.long y0] f m := (zx_if (tgt := 69) zh_X9_digest_62 rfl)
theorem ze_X9_digest_65 {d : Nat} {f : zF} {m : zM} {a0 a1 a2 : Value} {x3 : Int32} {y0 : Int64} : zex zTb d zqX9_digest 65 [a0, a1, a2, .int x3] [.long y0] f m = zex zTb d zqX9_digest 21 [(zclr a0), .long (y0 + ((I 1).toInt64)), .null, .int (x3 + I 1)] [] f m := (zx_iconst zh_X9_digest_65).trans ((zx_goto zh_X9_digest_66 rfl).trans ((zxl_go (x := (71, [a0, a1, a2, .int x3], [.long ((I 1).toInt64), .long y0], f, m)) zh_X9_digest_70 rfl).trans ((zxl_go (x := (72, [a0, a1, a2, .int x3], [.long (y0 + ((I 1).toInt64))], f, m)) zh_X9_digest_71 rfl).trans ((zxl_go (x := (73, [(zclr a0), .long (y0 + ((I 1).toInt64)), .null, .int x3], [], f, m)) zh_X9_digest_72 rfl).trans ((zxl_go (x := (76, [(zclr a0), .long (y0 + ((I 1).toInt64)), .null, .int (x3 + I 1)], [], f, m)) zh_X9_digest_73 rfl).trans ((zx_goto zh_X9_digest_76 rfl)))))))
theorem ze_X9_digest_69 {d : Nat} {f : zF} {m : zM} {a0 a1 a2 : Value} {x3 : Int32} {y0 : Int64} : zex zTb d zqX9_digest 69 [a0, a1, a2, .int x3] [.long y0] f m = zex zTb d zqX9_digest 21 [(zclr a0), .long (y0 + ((I 0).toInt64)), .null, .int (x3 + I 1)] [] f m := (zx_iconst zh_X9_digest_69).trans ((zxl_go (x := (71, [a0, a1, a2, .int x3], [.long ((I 0).toInt64), .long y0], f, m)) zh_X9_digest_70 rfl).trans ((zxl_go (x := (72, [a0, a1, a2, .int x3], [.long (y0 + ((I 0).toInt64))], f, m)) zh_X9_digest_71 rfl).trans ((zxl_go (x := (73, [(zclr a0), .long (y0 + ((I 0).toInt64)), .null, .int x3], [], f, m)) zh_X9_digest_72 rfl).trans ((zxl_go (x := (76, [(zclr a0), .long (y0 + ((I 0).toInt64)), .null, .int (x3 + I 1)], [], f, m)) zh_X9_digest_73 rfl).trans ((zx_goto zh_X9_digest_76 rfl))))))
theorem ze_X9_digest_79 {d : Nat} {f : zF} {m : zM} {a0 a1 a2 a3 : Value} : zex zTb d zqX9_digest 79 [a0, a1, a2, a3] [] f m = zex zTb d zqX9_digest 81 [a0, a1, (zclr a2), .int (I 0)] [] f m := (zx_iconst zh_X9_digest_79).trans ((zxl_go (x := (81, [a0, a1, (zclr a2), .int (I 0)], [], f, m)) zh_X9_digest_80 rfl))
theorem ze_X9_digest_81 {d : Nat} {f : zF} {m : zM} {x0 : Nat} {a1 a2 : Value} {x3 : Int32} : zex zTb d zqX9_digest 81 [.ref x0, a1, a2, .int x3] [] f m = if zco (f x0) 8 1 = true then zex zTb d zqX9_digest 86 [.ref x0, a1, a2, .int x3] [zcf (f x0) 1, .int x3] f m else none := (zxl_go (x := (82, [.ref x0, a1, a2, .int x3], [.int x3], f, m)) zh_X9_digest_81 rfl).trans ((zxl_go (x := (83, [.ref x0, a1, a2, .int x3], [.ref x0, .int x3], f, m)) zh_X9_digest_82 rfl).trans ((zx_getfield zh_X9_digest_83)))
theorem ze_X9_digest_86 {d : Nat} {f : zF} {m : zM} {a0 a1 a2 a3 : Value} {y0 : Int32} {y1 : Nat} : zex zTb d zqX9_digest 86 [a0, a1, a2, a3] [.ref y1, .int y0] f m = if zisa (f y1) = true then zex zTb d zqX9_digest 87 [a0, a1, a2, a3] [.int (Int32.ofNat (zln (f y1))), .int y0] f m else none := (zx_alen zh_X9_digest_86)
theorem ze_X9_digest_87 {d : Nat} {f : zF} {m : zM} {a0 a1 a2 a3 : Value} {y0 y1 : Int32} : zex zTb d zqX9_digest 87 [a0, a1, a2, a3] [.int y1, .int y0] f m = if zc2 .ge y0 y1 = true then zex zTb d zqX9_digest 110 [a0, a1, a2, a3] [] f m else zex zTb d zqX9_digest 90 [a0, a1, a2, a3] [] f m := (zx_icmp (tgt := 110) zh_X9_digest_87 rfl)
theorem ze_X9_digest_90 {d : Nat} {f : zF} {m : zM} {x0 : Nat} {x1 : Int64} {a2 a3 : Value} : zex zTb d zqX9_digest 90 [.ref x0, .long x1, a2, a3] [] f m = if zco (f x0) 8 1 = true then zex zTb d zqX9_digest 99 [.ref x0, .long x1, a2, a3] [zcf (f x0) 1, .long (x1 * (J 31))] f m else none := (zxl_go (x := (91, [.ref x0, .long x1, a2, a3], [.long x1], f, m)) zh_X9_digest_90 rfl).trans ((zx_ldc2 (v := 31) zh_X9_digest_91 (by decide)).trans ((zxl_go (x := (95, [.ref x0, .long x1, a2, a3], [.long (x1 * (J 31))], f, m)) zh_X9_digest_94 rfl).trans ((zxl_go (x := (96, [.ref x0, .long x1, a2, a3], [.ref x0, .long (x1 * (J 31))], f, m)) zh_X9_digest_95 rfl).trans ((zx_getfield zh_X9_digest_96)))))
theorem ze_X9_digest_99 {d : Nat} {f : zF} {m : zM} {a0 a1 a2 : Value} {x3 : Int32} {y0 : Int64} {y1 : Nat} : zex zTb d zqX9_digest 99 [a0, a1, a2, .int x3] [.ref y1, .long y0] f m = if zr8 (f y1) x3 = true then zex zTb d zqX9_digest 101 [a0, a1, a2, .int x3] [.int (zgi (f y1) x3.toNatClampNeg), .long y0] f m else none := (zxl_go (x := (100, [a0, a1, a2, .int x3], [.int x3, .ref y1, .long y0], f, m)) zh_X9_digest_99 rfl).trans ((zx_iaload zh_X9_digest_100))
theorem ze_X9_digest_101 {d : Nat} {f : zF} {m : zM} {a0 a1 a2 : Value} {x3 y1 : Int32} {y0 : Int64} : zex zTb d zqX9_digest 101 [a0, a1, a2, .int x3] [.int y1, .long y0] f m = zex zTb d zqX9_digest 81 [(zclr a0), .long (y0 + (y1.toInt64)), .null, .int (x3 + I 1)] [] f m := (zxl_go (x := (102, [a0, a1, a2, .int x3], [.long (y1.toInt64), .long y0], f, m)) zh_X9_digest_101 rfl).trans ((zxl_go (x := (103, [a0, a1, a2, .int x3], [.long (y0 + (y1.toInt64))], f, m)) zh_X9_digest_102 rfl).trans ((zxl_go (x := (104, [(zclr a0), .long (y0 + (y1.toInt64)), .null, .int x3], [], f, m)) zh_X9_digest_103 rfl).trans ((zxl_go (x := (107, [(zclr a0), .long (y0 + (y1.toInt64)), .null, .int (x3 + I 1)], [], f, m)) zh_X9_digest_104 rfl).trans ((zx_goto zh_X9_digest_107 rfl)))))
theorem ze_X9_digest_110 {d : Nat} {f : zF} {m : zM} {x0 : Nat} {x1 : Int64} {a2 a3 : Value} : zex zTb d zqX9_digest 110 [.ref x0, .long x1, a2, a3] [] f m = if zco (f x0) 8 0 = true then zex zTb d zqX9_digest 119 [.ref x0, .long x1, a2, a3] [zcf (f x0) 0, .long (x1 * (J 31))] f m else none := (zxl_go (x := (111, [.ref x0, .long x1, a2, a3], [.long x1], f, m)) zh_X9_digest_110 rfl).trans ((zx_ldc2 (v := 31) zh_X9_digest_111 (by decide)).trans ((zxl_go (x := (115, [.ref x0, .long x1, a2, a3], [.long (x1 * (J 31))], f, m)) zh_X9_digest_114 rfl).trans ((zxl_go (x := (116, [.ref x0, .long x1, a2, a3], [.ref x0, .long (x1 * (J 31))], f, m)) zh_X9_digest_115 rfl).trans ((zx_getfield zh_X9_digest_116)))))
theorem ze_X9_digest_119 {d : Nat} {f : zF} {m : zM} {a0 a1 a2 a3 : Value} {y0 : Int64} {y1 : Nat} : zex zTb d zqX9_digest 119 [a0, a1, a2, a3] [.ref y1, .long y0] f m = if zco (f y1) 1 3 = true then zex zTb d zqX9_digest 122 [a0, a1, a2, a3] [zcf (f y1) 3, .long y0] f m else none := (zx_getfield zh_X9_digest_119)
theorem ze_X9_digest_122 {d : Nat} {f : zF} {m : zM} {a0 a1 a2 a3 : Value} {y0 : Int64} {y1 : Nat} : zex zTb d zqX9_digest 122 [a0, a1, a2, a3] [.ref y1, .long y0] f m = if zco (f y1) 3 1 = true then zex zTb d zqX9_digest 125 [a0, a1, a2, a3] [zcf (f y1) 1, .long y0] f m else none := (zx_getfield zh_X9_digest_122)
theorem ze_X9_digest_125 {d : Nat} {f : zF} {m : zM} {x0 : Nat} {a1 a2 a3 : Value} {y0 : Int64} {y1 : Int32} : zex zTb d zqX9_digest 125 [.ref x0, a1, a2, a3] [.int y1, .long y0] f m = if zco (f x0) 8 4 = true then zex zTb d zqX9_digest 137 [.ref x0, .long (y0 + (y1.toInt64)), .null, a3] [zcf (f x0) 4, .long ((y0 + (y1.toInt64)) * (J 31))] f m else none := (zxl_go (x := (126, [.ref x0, a1, a2, a3], [.long (y1.toInt64), .long y0], f, m)) zh_X9_digest_125 rfl).trans ((zxl_go (x := (127, [.ref x0, a1, a2, a3], [.long (y0 + (y1.toInt64))], f, m)) zh_X9_digest_126 rfl).trans ((zxl_go (x := (128, [.ref x0, .long (y0 + (y1.toInt64)), .null, a3], [], f, m)) zh_X9_digest_127 rfl).trans ((zxl_go (x := (129, [.ref x0, .long (y0 + (y1.toInt64)), .null, a3], [.long (y0 + (y1.toInt64))], f, m)) zh_X9_digest_128 rfl).trans ((zx_ldc2 (v := 31) zh_X9_digest_129 (by decide)).trans ((zxl_go (x := (133, [.ref x0, .long (y0 + (y1.toInt64)), .null, a3], [.long ((y0 + (y1.toInt64)) * (J 31))], f, m)) zh_X9_digest_132 rfl).trans ((zxl_go (x := (134, [.ref x0, .long (y0 + (y1.toInt64)), .null, a3], [.ref x0, .long ((y0 + (y1.toInt64)) * (J 31))], f, m)) zh_X9_digest_133 rfl).trans ((zx_getfield zh_X9_digest_134))))))))
theorem ze_X9_digest_137 {d : Nat} {f : zF} {m : zM} {a0 a1 a2 a3 : Value} {y0 : Int64} {y1 : Int32} : zex zTb d zqX9_digest 137 [a0, a1, a2, a3] [.int y1, .long y0] f m = if zc1 .eq y1 = true then zex zTb d zqX9_digest 144 [a0, a1, a2, a3] [.long y0] f m else zex zTb d zqX9_digest 140 [a0, a1, a2, a3] [.long y0] f m := (zx_if (tgt := 144) zh_X9_digest_137 rfl)
theorem ze_X9_digest_140 {d : Nat} {f : zF} {m : zM} {x0 : Nat} {a1 a2 a3 : Value} {y0 : Int64} : zex zTb d zqX9_digest 140 [.ref x0, a1, a2, a3] [.long y0] f m = if zco (f x0) 8 4 = true then zex zTb d zqX9_digest 152 [.ref x0, .long (y0 + ((I 1).toInt64)), .null, a3] [zcf (f x0) 4] f m else none := (zx_iconst zh_X9_digest_140).trans ((zx_goto zh_X9_digest_141 rfl).trans ((zxl_go (x := (146, [.ref x0, a1, a2, a3], [.long ((I 1).toInt64), .long y0], f, m)) zh_X9_digest_145 rfl).trans ((zxl_go (x := (147, [.ref x0, a1, a2, a3], [.long (y0 + ((I 1).toInt64))], f, m)) zh_X9_digest_146 rfl).trans ((zxl_go (x := (148, [.ref x0, .long (y0 + ((I 1).toInt64)), .null, a3], [], f, m)) zh_X9_digest_147 rfl).trans ((zxl_go (x := (149, [.ref x0, .long (y0 + ((I 1).toInt64)), .null, a3], [.ref x0], f, m)) zh_X9_digest_148 rfl).trans ((zx_getfield zh_X9_digest_149)))))))
theorem ze_X9_digest_144 {d : Nat} {f : zF} {m : zM} {x0 : Nat} {a1 a2 a3 : Value} {y0 : Int64} : zex zTb d zqX9_digest 144 [.ref x0, a1, a2, a3] [.long y0] f m = if zco (f x0) 8 4 = true then zex zTb d zqX9_digest 152 [.ref x0, .long (y0 + ((I 0).toInt64)), .null, a3] [zcf (f x0) 4] f m else none := (zx_iconst zh_X9_digest_144).trans ((zxl_go (x := (146, [.ref x0, a1, a2, a3], [.long ((I 0).toInt64), .long y0], f, m)) zh_X9_digest_145 rfl).trans ((zxl_go (x := (147, [.ref x0, a1, a2, a3], [.long (y0 + ((I 0).toInt64))], f, m)) zh_X9_digest_146 rfl).trans ((zxl_go (x := (148, [.ref x0, .long (y0 + ((I 0).toInt64)), .null, a3], [], f, m)) zh_X9_digest_147 rfl).trans ((zxl_go (x := (149, [.ref x0, .long (y0 + ((I 0).toInt64)), .null, a3], [.ref x0], f, m)) zh_X9_digest_148 rfl).trans ((zx_getfield zh_X9_digest_149))))))
theorem ze_X9_digest_152 {d : Nat} {f : zF} {m : zM} {a0 a1 a2 a3 : Value} {y0 : Int32} : zex zTb d zqX9_digest 152 [a0, a1, a2, a3] [.int y0] f m = if zc1 .eq y0 = true then zex zTb d zqX9_digest 205 [a0, a1, a2, a3] [] f m else zex zTb d zqX9_digest 155 [a0, a1, a2, a3] [] f m := (zx_if (tgt := 205) zh_X9_digest_152 rfl)
theorem ze_X9_digest_155 {d : Nat} {f : zF} {m : zM} {x0 : Nat} {x1 : Int64} {a2 a3 : Value} : zex zTb d zqX9_digest 155 [.ref x0, .long x1, a2, a3] [] f m = if zco (f x0) 8 5 = true then zex zTb d zqX9_digest 164 [.ref x0, .long x1, a2, a3] [zcf (f x0) 5, .long (x1 * (J 31))] f m else none := (zxl_go (x := (156, [.ref x0, .long x1, a2, a3], [.long x1], f, m)) zh_X9_digest_155 rfl).trans ((zx_ldc2 (v := 31) zh_X9_digest_156 (by decide)).trans ((zxl_go (x := (160, [.ref x0, .long x1, a2, a3], [.long (x1 * (J 31))], f, m)) zh_X9_digest_159 rfl).trans ((zxl_go (x := (161, [.ref x0, .long x1, a2, a3], [.ref x0, .long (x1 * (J 31))], f, m)) zh_X9_digest_160 rfl).trans ((zx_getfield zh_X9_digest_161)))))
theorem ze_X9_digest_164 {d : Nat} {f : zF} {m : zM} {a0 a1 a2 a3 : Value} {y0 : Int64} {y1 : Nat} : zex zTb d zqX9_digest 164 [a0, a1, a2, a3] [.ref y1, .long y0] f m = if zco (f y1) 2 3 = true then zex zTb d zqX9_digest 167 [a0, a1, a2, a3] [zcf (f y1) 3, .long y0] f m else none := (zx_getfield zh_X9_digest_164)
theorem ze_X9_digest_167 {d : Nat} {f : zF} {m : zM} {a0 a1 a2 a3 : Value} {y0 : Int64} {y1 : Int32} : zex zTb d zqX9_digest 167 [a0, a1, a2, a3] [.int y1, .long y0] f m = zex zTb d zqX9_digest 172 [(zclr a0), .long (y0 + (y1.toInt64)), .null, .int (I 0)] [] f m := (zxl_go (x := (168, [a0, a1, a2, a3], [.long (y1.toInt64), .long y0], f, m)) zh_X9_digest_167 rfl).trans ((zxl_go (x := (169, [a0, a1, a2, a3], [.long (y0 + (y1.toInt64))], f, m)) zh_X9_digest_168 rfl).trans ((zxl_go (x := (170, [(zclr a0), .long (y0 + (y1.toInt64)), .null, a3], [], f, m)) zh_X9_digest_169 rfl).trans ((zx_iconst zh_X9_digest_170).trans ((zxl_go (x := (172, [(zclr a0), .long (y0 + (y1.toInt64)), .null, .int (I 0)], [], f, m)) zh_X9_digest_171 rfl)))))
theorem ze_X9_digest_172 {d : Nat} {f : zF} {m : zM} {x0 : Nat} {a1 a2 : Value} {x3 : Int32} : zex zTb d zqX9_digest 172 [.ref x0, a1, a2, .int x3] [] f m = if zco (f x0) 8 5 = true then zex zTb d zqX9_digest 177 [.ref x0, a1, a2, .int x3] [zcf (f x0) 5, .int x3] f m else none := (zxl_go (x := (173, [.ref x0, a1, a2, .int x3], [.int x3], f, m)) zh_X9_digest_172 rfl).trans ((zxl_go (x := (174, [.ref x0, a1, a2, .int x3], [.ref x0, .int x3], f, m)) zh_X9_digest_173 rfl).trans ((zx_getfield zh_X9_digest_174)))
theorem ze_X9_digest_177 {d : Nat} {f : zF} {m : zM} {a0 a1 a2 a3 : Value} {y0 : Int32} {y1 : Nat} : zex zTb d zqX9_digest 177 [a0, a1, a2, a3] [.ref y1, .int y0] f m = if zco (f y1) 2 3 = true then zex zTb d zqX9_digest 180 [a0, a1, a2, a3] [zcf (f y1) 3, .int y0] f m else none := (zx_getfield zh_X9_digest_177)
theorem ze_X9_digest_180 {d : Nat} {f : zF} {m : zM} {a0 a1 a2 a3 : Value} {y0 y1 : Int32} : zex zTb d zqX9_digest 180 [a0, a1, a2, a3] [.int y1, .int y0] f m = if zc2 .ge y0 y1 = true then zex zTb d zqX9_digest 205 [a0, a1, a2, a3] [] f m else zex zTb d zqX9_digest 183 [a0, a1, a2, a3] [] f m := (zx_icmp (tgt := 205) zh_X9_digest_180 rfl)
theorem ze_X9_digest_183 {d : Nat} {f : zF} {m : zM} {x0 : Nat} {x1 : Int64} {a2 a3 : Value} : zex zTb d zqX9_digest 183 [.ref x0, .long x1, a2, a3] [] f m = if zco (f x0) 8 5 = true then zex zTb d zqX9_digest 192 [.ref x0, .long x1, a2, a3] [zcf (f x0) 5, .long (x1 * (J 31))] f m else none := (zxl_go (x := (184, [.ref x0, .long x1, a2, a3], [.long x1], f, m)) zh_X9_digest_183 rfl).trans ((zx_ldc2 (v := 31) zh_X9_digest_184 (by decide)).trans ((zxl_go (x := (188, [.ref x0, .long x1, a2, a3], [.long (x1 * (J 31))], f, m)) zh_X9_digest_187 rfl).trans ((zxl_go (x := (189, [.ref x0, .long x1, a2, a3], [.ref x0, .long (x1 * (J 31))], f, m)) zh_X9_digest_188 rfl).trans ((zx_getfield zh_X9_digest_189)))))
theorem ze_X9_digest_192 {d : Nat} {f : zF} {m : zM} {a0 a1 a2 : Value} {x3 : Int32} {y0 : Int64} {y1 : Nat} : zex zTb d zqX9_digest 192 [a0, a1, a2, .int x3] [.ref y1, .long y0] f m = if zisc (f y1) 2 = true then zcal zTb (zrun zTb d 12 [.ref y1, .int x3] f m) d zqX9_digest 193 196 [a0, a1, a2, .int x3] [.long y0] else none := (zxl_go (x := (193, [a0, a1, a2, .int x3], [.int x3, .ref y1, .long y0], f, m)) zh_X9_digest_192 rfl).trans ((zx_virtual4 zh_X9_digest_193 (Nat.le_of_ble_eq_true rfl) rfl rfl (Nat.le_of_ble_eq_true rfl)))
theorem ze_X9_digest_196 {d : Nat} {f : zF} {m : zM} {a0 a1 a2 : Value} {x3 y1 : Int32} {y0 : Int64} : zex zTb d zqX9_digest 196 [a0, a1, a2, .int x3] [.int y1, .long y0] f m = zex zTb d zqX9_digest 172 [(zclr a0), .long (y0 + (y1.toInt64)), .null, .int (x3 + I 1)] [] f m := (zxl_go (x := (197, [a0, a1, a2, .int x3], [.long (y1.toInt64), .long y0], f, m)) zh_X9_digest_196 rfl).trans ((zxl_go (x := (198, [a0, a1, a2, .int x3], [.long (y0 + (y1.toInt64))], f, m)) zh_X9_digest_197 rfl).trans ((zxl_go (x := (199, [(zclr a0), .long (y0 + (y1.toInt64)), .null, .int x3], [], f, m)) zh_X9_digest_198 rfl).trans ((zxl_go (x := (202, [(zclr a0), .long (y0 + (y1.toInt64)), .null, .int (x3 + I 1)], [], f, m)) zh_X9_digest_199 rfl).trans ((zx_goto zh_X9_digest_202 rfl)))))
theorem ze_X9_digest_205 {d : Nat} {f : zF} {m : zM} {x0 : Nat} {x1 : Int64} {a2 a3 : Value} : zex zTb d zqX9_digest 205 [.ref x0, .long x1, a2, a3] [] f m = if zco (f x0) 8 9 = true then zex zTb d zqX9_digest 214 [.ref x0, .long x1, a2, a3] [zcf (f x0) 9, .long (x1 * (J 31))] f m else none := (zxl_go (x := (206, [.ref x0, .long x1, a2, a3], [.long x1], f, m)) zh_X9_digest_205 rfl).trans ((zx_ldc2 (v := 31) zh_X9_digest_206 (by decide)).trans ((zxl_go (x := (210, [.ref x0, .long x1, a2, a3], [.long (x1 * (J 31))], f, m)) zh_X9_digest_209 rfl).trans ((zxl_go (x := (211, [.ref x0, .long x1, a2, a3], [.ref x0, .long (x1 * (J 31))], f, m)) zh_X9_digest_210 rfl).trans ((zx_getfield zh_X9_digest_211)))))
theorem ze_X9_digest_214 {d : Nat} {f : zF} {m : zM} {a0 a1 a2 a3 : Value} {y0 : Int64} {y1 : Int32} : zex zTb d zqX9_digest 214 [a0, a1, a2, a3] [.int y1, .long y0] f m = zex zTb d zqX9_digest 219 [(zclr a0), .long (y0 + (y1.toInt64)), .null, .int (I 0)] [] f m := (zxl_go (x := (215, [a0, a1, a2, a3], [.long (y1.toInt64), .long y0], f, m)) zh_X9_digest_214 rfl).trans ((zxl_go (x := (216, [a0, a1, a2, a3], [.long (y0 + (y1.toInt64))], f, m)) zh_X9_digest_215 rfl).trans ((zxl_go (x := (217, [(zclr a0), .long (y0 + (y1.toInt64)), .null, a3], [], f, m)) zh_X9_digest_216 rfl).trans ((zx_iconst zh_X9_digest_217).trans ((zxl_go (x := (219, [(zclr a0), .long (y0 + (y1.toInt64)), .null, .int (I 0)], [], f, m)) zh_X9_digest_218 rfl)))))
theorem ze_X9_digest_219 {d : Nat} {f : zF} {m : zM} {x0 : Nat} {a1 a2 : Value} {x3 : Int32} : zex zTb d zqX9_digest 219 [.ref x0, a1, a2, .int x3] [] f m = if zco (f x0) 8 9 = true then zex zTb d zqX9_digest 224 [.ref x0, a1, a2, .int x3] [zcf (f x0) 9, .int x3] f m else none := (zxl_go (x := (220, [.ref x0, a1, a2, .int x3], [.int x3], f, m)) zh_X9_digest_219 rfl).trans ((zxl_go (x := (221, [.ref x0, a1, a2, .int x3], [.ref x0, .int x3], f, m)) zh_X9_digest_220 rfl).trans ((zx_getfield zh_X9_digest_221)))
theorem ze_X9_digest_224 {d : Nat} {f : zF} {m : zM} {a0 a1 a2 a3 : Value} {y0 y1 : Int32} : zex zTb d zqX9_digest 224 [a0, a1, a2, a3] [.int y1, .int y0] f m = if zc2 .ge y0 y1 = true then zex zTb d zqX9_digest 254 [a0, a1, a2, a3] [] f m else zex zTb d zqX9_digest 227 [a0, a1, a2, a3] [] f m := (zx_icmp (tgt := 254) zh_X9_digest_224 rfl)
theorem ze_X9_digest_227 {d : Nat} {f : zF} {m : zM} {x0 : Nat} {x1 : Int64} {a2 a3 : Value} : zex zTb d zqX9_digest 227 [.ref x0, .long x1, a2, a3] [] f m = if zco (f x0) 8 8 = true then zex zTb d zqX9_digest 236 [.ref x0, .long x1, a2, a3] [zcf (f x0) 8, .long (x1 * (J 31))] f m else none := (zxl_go (x := (228, [.ref x0, .long x1, a2, a3], [.long x1], f, m)) zh_X9_digest_227 rfl).trans ((zx_ldc2 (v := 31) zh_X9_digest_228 (by decide)).trans ((zxl_go (x := (232, [.ref x0, .long x1, a2, a3], [.long (x1 * (J 31))], f, m)) zh_X9_digest_231 rfl).trans ((zxl_go (x := (233, [.ref x0, .long x1, a2, a3], [.ref x0, .long (x1 * (J 31))], f, m)) zh_X9_digest_232 rfl).trans ((zx_getfield zh_X9_digest_233)))))
theorem ze_X9_digest_236 {d : Nat} {f : zF} {m : zM} {a0 a1 a2 : Value} {x3 : Int32} {y0 : Int64} {y1 : Nat} : zex zTb d zqX9_digest 236 [a0, a1, a2, .int x3] [.ref y1, .long y0] f m = if zrq (f y1) x3 = true then zex zTb d zqX9_digest 238 [a0, a1, a2, .int x3] [.ref (zgq (f y1) x3.toNatClampNeg), .long y0] f m else none := (zxl_go (x := (237, [a0, a1, a2, .int x3], [.int x3, .ref y1, .long y0], f, m)) zh_X9_digest_236 rfl).trans ((zx_aaload zh_X9_digest_237))
theorem ze_X9_digest_238 {d : Nat} {f : zF} {m : zM} {x0 y1 : Nat} {a1 a2 a3 : Value} {y0 : Int64} : zex zTb d zqX9_digest 238 [.ref x0, a1, a2, a3] [.ref y1, .long y0] f m = if zco (f x0) 8 1 = true then zex zTb d zqX9_digest 242 [.ref x0, a1, a2, a3] [zcf (f x0) 1, .ref y1, .long y0] f m else none := (zxl_go (x := (239, [.ref x0, a1, a2, a3], [.ref x0, .ref y1, .long y0], f, m)) zh_X9_digest_238 rfl).trans ((zx_getfield zh_X9_digest_239))
theorem ze_X9_digest_242 {d : Nat} {f : zF} {m : zM} {a0 a1 a2 a3 : Value} {y0 : Int64} {y1 y2 : Nat} : zex zTb d zqX9_digest 242 [a0, a1, a2, a3] [.ref y2, .ref y1, .long y0] f m = if zisc (f y1) 2 = true then zcal zTb (zrun zTb d 15 [.ref y1, .ref y2] f m) d zqX9_digest 242 245 [a0, a1, a2, a3] [.long y0] else none := (zx_virtual4 zh_X9_digest_242 (Nat.le_of_ble_eq_true rfl) rfl rfl (Nat.le_of_ble_eq_true rfl))
theorem ze_X9_digest_245 {d : Nat} {f : zF} {m : zM} {a0 a1 a2 : Value} {x3 y1 : Int32} {y0 : Int64} : zex zTb d zqX9_digest 245 [a0, a1, a2, .int x3] [.int y1, .long y0] f m = zex zTb d zqX9_digest 219 [(zclr a0), .long (y0 + (y1.toInt64)), .null, .int (x3 + I 1)] [] f m := (zxl_go (x := (246, [a0, a1, a2, .int x3], [.long (y1.toInt64), .long y0], f, m)) zh_X9_digest_245 rfl).trans ((zxl_go (x := (247, [a0, a1, a2, .int x3], [.long (y0 + (y1.toInt64))], f, m)) zh_X9_digest_246 rfl).trans ((zxl_go (x := (248, [(zclr a0), .long (y0 + (y1.toInt64)), .null, .int x3], [], f, m)) zh_X9_digest_247 rfl).trans ((zxl_go (x := (251, [(zclr a0), .long (y0 + (y1.toInt64)), .null, .int (x3 + I 1)], [], f, m)) zh_X9_digest_248 rfl).trans ((zx_goto zh_X9_digest_251 rfl)))))
theorem ze_X9_digest_254 {d : Nat} {f : zF} {m : zM} {a0 a2 a3 : Value} {x1 : Int64} : zex zTb d zqX9_digest 254 [a0, .long x1, a2, a3] [] f m = some (.inl (some (.long x1)), f, m) := (zxl_go (x := (255, [a0, .long x1, a2, a3], [.long x1], f, m)) zh_X9_digest_254 rfl).trans ((zx_lret zh_X9_digest_255 rfl))
-- X10_init
theorem zh_X10_init_0 : zfe zqX10_init.i 0 = some (0, .aload_n 0, 1, 0, 0, 0) := rfl
theorem zh_X10_init_1 : zfe zqX10_init.i 1 = some (1, .invokespecial 3, 3, 0, 0, 0) := rfl
theorem zh_X10_init_4 : zfe zqX10_init.i 4 = some (4, .aload_n 0, 1, 0, 0, 0) := rfl
theorem zh_X10_init_5 : zfe zqX10_init.i 5 = some (5, .bipush 10, 2, 0, 0, 0) := rfl
theorem zh_X10_init_7 : zfe zqX10_init.i 7 = some (7, .newarray .int, 2, 0, 0, 0) := rfl
theorem zh_X10_init_9 : zfe zqX10_init.i 9 = some (9, .putfield 9, 3, 9, 2, 1) := rfl
theorem zh_X10_init_12 : zfe zqX10_init.i 12 = some (12, .aload_n 0, 1, 0, 0, 0) := rfl
theorem zh_X10_init_13 : zfe zqX10_init.i 13 = some (13, .bipush 10, 2, 0, 0, 0) := rfl
theorem zh_X10_init_15 : zfe zqX10_init.i 15 = some (15, .newarray .boolean, 2, 0, 0, 0) := rfl
theorem zh_X10_init_17 : zfe zqX10_init.i 17 = some (17, .putfield 13, 3, 9, 3, 1) := rfl
theorem zh_X10_init_20 : zfe zqX10_init.i 20 = some (20, .aload_n 0, 1, 0, 0, 0) := rfl
theorem zh_X10_init_21 : zfe zqX10_init.i 21 = some (21, .bipush 7, 2, 0, 0, 0) := rfl
theorem zh_X10_init_23 : zfe zqX10_init.i 23 = some (23, .newarray .int, 2, 0, 0, 0) := rfl
theorem zh_X10_init_25 : zfe zqX10_init.i 25 = some (25, .dup, 1, 0, 0, 0) := rfl
theorem zh_X10_init_26 : zfe zqX10_init.i 26 = some (26, .iconst 0, 1, 0, 0, 0) := rfl
theorem zh_X10_init_27 : zfe zqX10_init.i 27 = some (27, .iconst 1, 1, 0, 0, 0) := rfl
theorem zh_X10_init_28 : zfe zqX10_init.i 28 = some (28, .iastore, 1, 0, 0, 0) := rfl
theorem zh_X10_init_29 : zfe zqX10_init.i 29 = some (29, .dup, 1, 0, 0, 0) := rfl
theorem zh_X10_init_30 : zfe zqX10_init.i 30 = some (30, .iconst 1, 1, 0, 0, 0) := rfl
theorem zh_X10_init_31 : zfe zqX10_init.i 31 = some (31, .iconst 1, 1, 0, 0, 0) := rfl
theorem zh_X10_init_32 : zfe zqX10_init.i 32 = some (32, .iastore, 1, 0, 0, 0) := rfl
theorem zh_X10_init_33 : zfe zqX10_init.i 33 = some (33, .dup, 1, 0, 0, 0) := rfl
theorem zh_X10_init_34 : zfe zqX10_init.i 34 = some (34, .iconst 2, 1, 0, 0, 0) := rfl
theorem zh_X10_init_35 : zfe zqX10_init.i 35 = some (35, .iconst 1, 1, 0, 0, 0) := rfl
theorem zh_X10_init_36 : zfe zqX10_init.i 36 = some (36, .iastore, 1, 0, 0, 0) := rfl
theorem zh_X10_init_37 : zfe zqX10_init.i 37 = some (37, .dup, 1, 0, 0, 0) := rfl
theorem zh_X10_init_38 : zfe zqX10_init.i 38 = some (38, .iconst 3, 1, 0, 0, 0) := rfl
theorem zh_X10_init_39 : zfe zqX10_init.i 39 = some (39, .iconst 1, 1, 0, 0, 0) := rfl
theorem zh_X10_init_40 : zfe zqX10_init.i 40 = some (40, .iastore, 1, 0, 0, 0) := rfl
theorem zh_X10_init_41 : zfe zqX10_init.i 41 = some (41, .dup, 1, 0, 0, 0) := rfl
theorem zh_X10_init_42 : zfe zqX10_init.i 42 = some (42, .iconst 4, 1, 0, 0, 0) := rfl
theorem zh_X10_init_43 : zfe zqX10_init.i 43 = some (43, .iconst 1, 1, 0, 0, 0) := rfl
theorem zh_X10_init_44 : zfe zqX10_init.i 44 = some (44, .iastore, 1, 0, 0, 0) := rfl
theorem zh_X10_init_45 : zfe zqX10_init.i 45 = some (45, .dup, 1, 0, 0, 0) := rfl
theorem zh_X10_init_46 : zfe zqX10_init.i 46 = some (46, .iconst 5, 1, 0, 0, 0) := rfl
theorem zh_X10_init_47 : zfe zqX10_init.i 47 = some (47, .iconst 1, 1, 0, 0, 0) := rfl
theorem zh_X10_init_48 : zfe zqX10_init.i 48 = some (48, .iastore, 1, 0, 0, 0) := rfl
theorem zh_X10_init_49 : zfe zqX10_init.i 49 = some (49, .dup, 1, 0, 0, 0) := rfl
theorem zh_X10_init_50 : zfe zqX10_init.i 50 = some (50, .bipush 6, 2, 0, 0, 0) := rfl
theorem zh_X10_init_52 : zfe zqX10_init.i 52 = some (52, .iconst 1, 1, 0, 0, 0) := rfl
theorem zh_X10_init_53 : zfe zqX10_init.i 53 = some (53, .iastore, 1, 0, 0, 0) := rfl
theorem zh_X10_init_54 : zfe zqX10_init.i 54 = some (54, .putfield 17, 3, 9, 4, 1) := rfl
theorem zh_X10_init_57 : zfe zqX10_init.i 57 = some (57, .aload_n 0, 1, 0, 0, 0) := rfl
theorem zh_X10_init_58 : zfe zqX10_init.i 58 = some (58, .bipush 60, 2, 0, 0, 0) := rfl
theorem zh_X10_init_60 : zfe zqX10_init.i 60 = some (60, .newarray .int, 2, 0, 0, 0) := rfl
theorem zh_X10_init_62 : zfe zqX10_init.i 62 = some (62, .putfield 20, 3, 9, 6, 1) := rfl
theorem zh_X10_init_65 : zfe zqX10_init.i 65 = some (65, .aload_n 0, 1, 0, 0, 0) := rfl
theorem zh_X10_init_66 : zfe zqX10_init.i 66 = some (66, .bipush 60, 2, 0, 0, 0) := rfl
theorem zh_X10_init_68 : zfe zqX10_init.i 68 = some (68, .newarray .int, 2, 0, 0, 0) := rfl
theorem zh_X10_init_70 : zfe zqX10_init.i 70 = some (70, .putfield 23, 3, 9, 7, 1) := rfl
theorem zh_X10_init_73 : zfe zqX10_init.i 73 = some (73, .aload_n 0, 1, 0, 0, 0) := rfl
theorem zh_X10_init_74 : zfe zqX10_init.i 74 = some (74, .sipush 420, 3, 0, 0, 0) := rfl
theorem zh_X10_init_77 : zfe zqX10_init.i 77 = some (77, .newarray .int, 2, 0, 0, 0) := rfl
theorem zh_X10_init_79 : zfe zqX10_init.i 79 = some (79, .putfield 26, 3, 9, 8, 1) := rfl
theorem zh_X10_init_82 : zfe zqX10_init.i 82 = some (82, .aload_n 0, 1, 0, 0, 0) := rfl
theorem zh_X10_init_83 : zfe zqX10_init.i 83 = some (83, .sipush 420, 3, 0, 0, 0) := rfl
theorem zh_X10_init_86 : zfe zqX10_init.i 86 = some (86, .newarray .int, 2, 0, 0, 0) := rfl
theorem zh_X10_init_88 : zfe zqX10_init.i 88 = some (88, .putfield 29, 3, 9, 9, 1) := rfl
theorem zh_X10_init_91 : zfe zqX10_init.i 91 = some (91, .aload_n 0, 1, 0, 0, 0) := rfl
theorem zh_X10_init_92 : zfe zqX10_init.i 92 = some (92, .sipush 4096, 3, 0, 0, 0) := rfl
theorem zh_X10_init_95 : zfe zqX10_init.i 95 = some (95, .newarray .int, 2, 0, 0, 0) := rfl
theorem zh_X10_init_97 : zfe zqX10_init.i 97 = some (97, .putfield 32, 3, 9, 10, 1) := rfl
theorem zh_X10_init_100 : zfe zqX10_init.i 100 = some (100, .aload_n 0, 1, 0, 0, 0) := rfl
theorem zh_X10_init_101 : zfe zqX10_init.i 101 = some (101, .bipush 120, 2, 0, 0, 0) := rfl
theorem zh_X10_init_103 : zfe zqX10_init.i 103 = some (103, .newarray .int, 2, 0, 0, 0) := rfl
theorem zh_X10_init_105 : zfe zqX10_init.i 105 = some (105, .putfield 35, 3, 9, 12, 1) := rfl
theorem zh_X10_init_108 : zfe zqX10_init.i 108 = some (108, .aload_n 0, 1, 0, 0, 0) := rfl
theorem zh_X10_init_109 : zfe zqX10_init.i 109 = some (109, .bipush 120, 2, 0, 0, 0) := rfl
theorem zh_X10_init_111 : zfe zqX10_init.i 111 = some (111, .newarray .int, 2, 0, 0, 0) := rfl
theorem zh_X10_init_113 : zfe zqX10_init.i 113 = some (113, .putfield 38, 3, 9, 13, 1) := rfl
theorem zh_X10_init_116 : zfe zqX10_init.i 116 = some (116, .aload_n 0, 1, 0, 0, 0) := rfl
theorem zh_X10_init_117 : zfe zqX10_init.i 117 = some (117, .bipush 120, 2, 0, 0, 0) := rfl
theorem zh_X10_init_119 : zfe zqX10_init.i 119 = some (119, .newarray .int, 2, 0, 0, 0) := rfl
theorem zh_X10_init_121 : zfe zqX10_init.i 121 = some (121, .putfield 41, 3, 9, 14, 1) := rfl
theorem zh_X10_init_124 : zfe zqX10_init.i 124 = some (124, .aload_n 0, 1, 0, 0, 0) := rfl
theorem zh_X10_init_125 : zfe zqX10_init.i 125 = some (125, .bipush 120, 2, 0, 0, 0) := rfl
theorem zh_X10_init_127 : zfe zqX10_init.i 127 = some (127, .newarray .int, 2, 0, 0, 0) := rfl
theorem zh_X10_init_129 : zfe zqX10_init.i 129 = some (129, .putfield 44, 3, 9, 15, 1) := rfl
theorem zh_X10_init_132 : zfe zqX10_init.i 132 = some (132, .aload_n 0, 1, 0, 0, 0) := rfl
theorem zh_X10_init_133 : zfe zqX10_init.i 133 = some (133, .bipush 120, 2, 0, 0, 0) := rfl
theorem zh_X10_init_135 : zfe zqX10_init.i 135 = some (135, .newarray .long, 2, 0, 0, 0) := rfl
theorem zh_X10_init_137 : zfe zqX10_init.i 137 = some (137, .putfield 47, 3, 9, 16, 1) := rfl
theorem zh_X10_init_140 : zfe zqX10_init.i 140 = some (140, .aload_n 0, 1, 0, 0, 0) := rfl
theorem zh_X10_init_141 : zfe zqX10_init.i 141 = some (141, .sipush 780, 3, 0, 0, 0) := rfl
theorem zh_X10_init_144 : zfe zqX10_init.i 144 = some (144, .newarray .int, 2, 0, 0, 0) := rfl
theorem zh_X10_init_146 : zfe zqX10_init.i 146 = some (146, .putfield 51, 3, 9, 18, 1) := rfl
theorem zh_X10_init_149 : zfe zqX10_init.i 149 = some (149, .aload_n 0, 1, 0, 0, 0) := rfl
theorem zh_X10_init_150 : zfe zqX10_init.i 150 = some (150, .bipush 13, 2, 0, 0, 0) := rfl
theorem zh_X10_init_152 : zfe zqX10_init.i 152 = some (152, .newarray .int, 2, 0, 0, 0) := rfl
theorem zh_X10_init_154 : zfe zqX10_init.i 154 = some (154, .putfield 54, 3, 9, 19, 1) := rfl
theorem zh_X10_init_157 : zfe zqX10_init.i 157 = some (157, .aload_n 0, 1, 0, 0, 0) := rfl
theorem zh_X10_init_158 : zfe zqX10_init.i 158 = some (158, .sipush 240, 3, 0, 0, 0) := rfl
theorem zh_X10_init_161 : zfe zqX10_init.i 161 = some (161, .newarray .char, 2, 0, 0, 0) := rfl
theorem zh_X10_init_163 : zfe zqX10_init.i 163 = some (163, .putfield 57, 3, 9, 22, 1) := rfl
theorem zh_X10_init_166 : zfe zqX10_init.i 166 = some (166, .aload_n 0, 1, 0, 0, 0) := rfl
theorem zh_X10_init_167 : zfe zqX10_init.i 167 = some (167, .bipush 60, 2, 0, 0, 0) := rfl
theorem zh_X10_init_169 : zfe zqX10_init.i 169 = some (169, .newarray .long, 2, 0, 0, 0) := rfl
theorem zh_X10_init_171 : zfe zqX10_init.i 171 = some (171, .putfield 61, 3, 9, 24, 1) := rfl
theorem zh_X10_init_174 : zfe zqX10_init.i 174 = some (174, .aload_n 0, 1, 0, 0, 0) := rfl
theorem zh_X10_init_175 : zfe zqX10_init.i 175 = some (175, .invokevirtual 64, 3, 122, 1, 9) := rfl
theorem zh_X10_init_178 : zfe zqX10_init.i 178 = some (178, .return_, 1, 0, 0, 0) := rfl
theorem ze_X10_init_0 {d : Nat} {f : zF} {nx kk n : Nat} {x0 : Nat} : zex zTb d zqX10_init 0 [.ref x0] [] f (some nx, kk, n) = zex zTb d zqX10_init 9 [.ref x0] [.ref nx, .ref x0] (zup f nx (.inl (0, (10, .inl (fun _ => 0))))) (some (nx + 1), kk + 1, n + 10) := (zxl_go (x := (1, [.ref x0], [.ref x0], f, (some nx, kk, n))) zh_X10_init_0 rfl).trans ((zx_objinit zh_X10_init_1 (Nat.le_of_ble_eq_true rfl)).trans ((zxl_go (x := (5, [.ref x0], [.ref x0], f, (some nx, kk, n))) zh_X10_init_4 rfl).trans ((zx_bipush zh_X10_init_5 (by decide)).trans ((zx_newarr (N := 10) zh_X10_init_7 rfl (by decide) (by decide))))))
theorem ze_X10_init_9 {d : Nat} {f : zF} {m : zM} {a0 : Value} {y0 y1 : Nat} : zex zTb d zqX10_init 9 [a0] [.ref y1, .ref y0] f m = if (zco (f y0) 9 2 && zok (zfty 9 2) (.ref y1)) = true then zex zTb d zqX10_init 12 [a0] [] (zup f y0 (zcs (f y0) 2 (.ref y1))) m else none := (zx_putfield zh_X10_init_9)
theorem ze_X10_init_12 {d : Nat} {f : zF} {nx kk n : Nat} {x0 : Nat} : zex zTb d zqX10_init 12 [.ref x0] [] f (some nx, kk, n) = zex zTb d zqX10_init 17 [.ref x0] [.ref nx, .ref x0] (zup f nx (.inl (2, (10, .inl (fun _ => 0))))) (some (nx + 1), kk + 1, n + 10) := (zxl_go (x := (13, [.ref x0], [.ref x0], f, (some nx, kk, n))) zh_X10_init_12 rfl).trans ((zx_bipush zh_X10_init_13 (by decide)).trans ((zx_newarr (N := 10) zh_X10_init_15 rfl (by decide) (by decide))))
theorem ze_X10_init_17 {d : Nat} {f : zF} {m : zM} {a0 : Value} {y0 y1 : Nat} : zex zTb d zqX10_init 17 [a0] [.ref y1, .ref y0] f m = if (zco (f y0) 9 3 && zok (zfty 9 3) (.ref y1)) = true then zex zTb d zqX10_init 20 [a0] [] (zup f y0 (zcs (f y0) 3 (.ref y1))) m else none := (zx_putfield zh_X10_init_17)
theorem ze_X10_init_20 {d : Nat} {f : zF} {nx kk n : Nat} {x0 : Nat} : zex zTb d zqX10_init 20 [.ref x0] [] f (some nx, kk, n) = zex zTb d zqX10_init 25 [.ref x0] [.ref nx, .ref x0] (zup f nx (.inl (0, (7, .inl (fun _ => 0))))) (some (nx + 1), kk + 1, n + 7) := (zxl_go (x := (21, [.ref x0], [.ref x0], f, (some nx, kk, n))) zh_X10_init_20 rfl).trans ((zx_bipush zh_X10_init_21 (by decide)).trans ((zx_newarr (N := 7) zh_X10_init_23 rfl (by decide) (by decide))))
theorem ze_X10_init_25 {d : Nat} {f : zF} {m : zM} {a0 : Value} {y0 y1 : Nat} : zex zTb d zqX10_init 25 [a0] [.ref y1, .ref y0] f m = if zri (f y1) 0 (I 0) = true then zex zTb d zqX10_init 29 [a0] [.ref y1, .ref y0] (zup f y1 (zwi (f y1) 0 (I 0).toNatClampNeg (I 1))) m else none := (zxl_go (x := (26, [a0], [.ref y1, .ref y1, .ref y0], f, m)) zh_X10_init_25 rfl).trans ((zx_iconst zh_X10_init_26).trans ((zx_iconst zh_X10_init_27).trans ((zx_iastore zh_X10_init_28))))
theorem ze_X10_init_29 {d : Nat} {f : zF} {m : zM} {a0 : Value} {y0 y1 : Nat} : zex zTb d zqX10_init 29 [a0] [.ref y1, .ref y0] f m = if zri (f y1) 0 (I 1) = true then zex zTb d zqX10_init 33 [a0] [.ref y1, .ref y0] (zup f y1 (zwi (f y1) 0 (I 1).toNatClampNeg (I 1))) m else none := (zxl_go (x := (30, [a0], [.ref y1, .ref y1, .ref y0], f, m)) zh_X10_init_29 rfl).trans ((zx_iconst zh_X10_init_30).trans ((zx_iconst zh_X10_init_31).trans ((zx_iastore zh_X10_init_32))))
theorem ze_X10_init_33 {d : Nat} {f : zF} {m : zM} {a0 : Value} {y0 y1 : Nat} : zex zTb d zqX10_init 33 [a0] [.ref y1, .ref y0] f m = if zri (f y1) 0 (I 2) = true then zex zTb d zqX10_init 37 [a0] [.ref y1, .ref y0] (zup f y1 (zwi (f y1) 0 (I 2).toNatClampNeg (I 1))) m else none := (zxl_go (x := (34, [a0], [.ref y1, .ref y1, .ref y0], f, m)) zh_X10_init_33 rfl).trans ((zx_iconst zh_X10_init_34).trans ((zx_iconst zh_X10_init_35).trans ((zx_iastore zh_X10_init_36))))
theorem ze_X10_init_37 {d : Nat} {f : zF} {m : zM} {a0 : Value} {y0 y1 : Nat} : zex zTb d zqX10_init 37 [a0] [.ref y1, .ref y0] f m = if zri (f y1) 0 (I 3) = true then zex zTb d zqX10_init 41 [a0] [.ref y1, .ref y0] (zup f y1 (zwi (f y1) 0 (I 3).toNatClampNeg (I 1))) m else none := (zxl_go (x := (38, [a0], [.ref y1, .ref y1, .ref y0], f, m)) zh_X10_init_37 rfl).trans ((zx_iconst zh_X10_init_38).trans ((zx_iconst zh_X10_init_39).trans ((zx_iastore zh_X10_init_40))))
theorem ze_X10_init_41 {d : Nat} {f : zF} {m : zM} {a0 : Value} {y0 y1 : Nat} : zex zTb d zqX10_init 41 [a0] [.ref y1, .ref y0] f m = if zri (f y1) 0 (I 4) = true then zex zTb d zqX10_init 45 [a0] [.ref y1, .ref y0] (zup f y1 (zwi (f y1) 0 (I 4).toNatClampNeg (I 1))) m else none := (zxl_go (x := (42, [a0], [.ref y1, .ref y1, .ref y0], f, m)) zh_X10_init_41 rfl).trans ((zx_iconst zh_X10_init_42).trans ((zx_iconst zh_X10_init_43).trans ((zx_iastore zh_X10_init_44))))
theorem ze_X10_init_45 {d : Nat} {f : zF} {m : zM} {a0 : Value} {y0 y1 : Nat} : zex zTb d zqX10_init 45 [a0] [.ref y1, .ref y0] f m = if zri (f y1) 0 (I 5) = true then zex zTb d zqX10_init 49 [a0] [.ref y1, .ref y0] (zup f y1 (zwi (f y1) 0 (I 5).toNatClampNeg (I 1))) m else none := (zxl_go (x := (46, [a0], [.ref y1, .ref y1, .ref y0], f, m)) zh_X10_init_45 rfl).trans ((zx_iconst zh_X10_init_46).trans ((zx_iconst zh_X10_init_47).trans ((zx_iastore zh_X10_init_48))))
theorem ze_X10_init_49 {d : Nat} {f : zF} {m : zM} {a0 : Value} {y0 y1 : Nat} : zex zTb d zqX10_init 49 [a0] [.ref y1, .ref y0] f m = if zri (f y1) 0 (I 6) = true then zex zTb d zqX10_init 54 [a0] [.ref y1, .ref y0] (zup f y1 (zwi (f y1) 0 (I 6).toNatClampNeg (I 1))) m else none := (zxl_go (x := (50, [a0], [.ref y1, .ref y1, .ref y0], f, m)) zh_X10_init_49 rfl).trans ((zx_bipush zh_X10_init_50 (by decide)).trans ((zx_iconst zh_X10_init_52).trans ((zx_iastore zh_X10_init_53))))
theorem ze_X10_init_54 {d : Nat} {f : zF} {m : zM} {a0 : Value} {y0 y1 : Nat} : zex zTb d zqX10_init 54 [a0] [.ref y1, .ref y0] f m = if (zco (f y0) 9 4 && zok (zfty 9 4) (.ref y1)) = true then zex zTb d zqX10_init 57 [a0] [] (zup f y0 (zcs (f y0) 4 (.ref y1))) m else none := (zx_putfield zh_X10_init_54)
theorem ze_X10_init_57 {d : Nat} {f : zF} {nx kk n : Nat} {x0 : Nat} : zex zTb d zqX10_init 57 [.ref x0] [] f (some nx, kk, n) = zex zTb d zqX10_init 62 [.ref x0] [.ref nx, .ref x0] (zup f nx (.inl (0, (60, .inl (fun _ => 0))))) (some (nx + 1), kk + 1, n + 60) := (zxl_go (x := (58, [.ref x0], [.ref x0], f, (some nx, kk, n))) zh_X10_init_57 rfl).trans ((zx_bipush zh_X10_init_58 (by decide)).trans ((zx_newarr (N := 60) zh_X10_init_60 rfl (by decide) (by decide))))
theorem ze_X10_init_62 {d : Nat} {f : zF} {m : zM} {a0 : Value} {y0 y1 : Nat} : zex zTb d zqX10_init 62 [a0] [.ref y1, .ref y0] f m = if (zco (f y0) 9 6 && zok (zfty 9 6) (.ref y1)) = true then zex zTb d zqX10_init 65 [a0] [] (zup f y0 (zcs (f y0) 6 (.ref y1))) m else none := (zx_putfield zh_X10_init_62)
theorem ze_X10_init_65 {d : Nat} {f : zF} {nx kk n : Nat} {x0 : Nat} : zex zTb d zqX10_init 65 [.ref x0] [] f (some nx, kk, n) = zex zTb d zqX10_init 70 [.ref x0] [.ref nx, .ref x0] (zup f nx (.inl (0, (60, .inl (fun _ => 0))))) (some (nx + 1), kk + 1, n + 60) := (zxl_go (x := (66, [.ref x0], [.ref x0], f, (some nx, kk, n))) zh_X10_init_65 rfl).trans ((zx_bipush zh_X10_init_66 (by decide)).trans ((zx_newarr (N := 60) zh_X10_init_68 rfl (by decide) (by decide))))
theorem ze_X10_init_70 {d : Nat} {f : zF} {m : zM} {a0 : Value} {y0 y1 : Nat} : zex zTb d zqX10_init 70 [a0] [.ref y1, .ref y0] f m = if (zco (f y0) 9 7 && zok (zfty 9 7) (.ref y1)) = true then zex zTb d zqX10_init 73 [a0] [] (zup f y0 (zcs (f y0) 7 (.ref y1))) m else none := (zx_putfield zh_X10_init_70)
theorem ze_X10_init_73 {d : Nat} {f : zF} {nx kk n : Nat} {x0 : Nat} : zex zTb d zqX10_init 73 [.ref x0] [] f (some nx, kk, n) = zex zTb d zqX10_init 79 [.ref x0] [.ref nx, .ref x0] (zup f nx (.inl (0, (420, .inl (fun _ => 0))))) (some (nx + 1), kk + 1, n + 420) := (zxl_go (x := (74, [.ref x0], [.ref x0], f, (some nx, kk, n))) zh_X10_init_73 rfl).trans ((zx_sipush zh_X10_init_74 (by decide)).trans ((zx_newarr (N := 420) zh_X10_init_77 rfl (by decide) (by decide))))
theorem ze_X10_init_79 {d : Nat} {f : zF} {m : zM} {a0 : Value} {y0 y1 : Nat} : zex zTb d zqX10_init 79 [a0] [.ref y1, .ref y0] f m = if (zco (f y0) 9 8 && zok (zfty 9 8) (.ref y1)) = true then zex zTb d zqX10_init 82 [a0] [] (zup f y0 (zcs (f y0) 8 (.ref y1))) m else none := (zx_putfield zh_X10_init_79)
theorem ze_X10_init_82 {d : Nat} {f : zF} {nx kk n : Nat} {x0 : Nat} : zex zTb d zqX10_init 82 [.ref x0] [] f (some nx, kk, n) = zex zTb d zqX10_init 88 [.ref x0] [.ref nx, .ref x0] (zup f nx (.inl (0, (420, .inl (fun _ => 0))))) (some (nx + 1), kk + 1, n + 420) := (zxl_go (x := (83, [.ref x0], [.ref x0], f, (some nx, kk, n))) zh_X10_init_82 rfl).trans ((zx_sipush zh_X10_init_83 (by decide)).trans ((zx_newarr (N := 420) zh_X10_init_86 rfl (by decide) (by decide))))
theorem ze_X10_init_88 {d : Nat} {f : zF} {m : zM} {a0 : Value} {y0 y1 : Nat} : zex zTb d zqX10_init 88 [a0] [.ref y1, .ref y0] f m = if (zco (f y0) 9 9 && zok (zfty 9 9) (.ref y1)) = true then zex zTb d zqX10_init 91 [a0] [] (zup f y0 (zcs (f y0) 9 (.ref y1))) m else none := (zx_putfield zh_X10_init_88)
theorem ze_X10_init_91 {d : Nat} {f : zF} {nx kk n : Nat} {x0 : Nat} : zex zTb d zqX10_init 91 [.ref x0] [] f (some nx, kk, n) = zex zTb d zqX10_init 97 [.ref x0] [.ref nx, .ref x0] (zup f nx (.inl (0, (4096, .inl (fun _ => 0))))) (some (nx + 1), kk + 1, n + 4096) := (zxl_go (x := (92, [.ref x0], [.ref x0], f, (some nx, kk, n))) zh_X10_init_91 rfl).trans ((zx_sipush zh_X10_init_92 (by decide)).trans ((zx_newarr (N := 4096) zh_X10_init_95 rfl (by decide) (by decide))))
theorem ze_X10_init_97 {d : Nat} {f : zF} {m : zM} {a0 : Value} {y0 y1 : Nat} : zex zTb d zqX10_init 97 [a0] [.ref y1, .ref y0] f m = if (zco (f y0) 9 10 && zok (zfty 9 10) (.ref y1)) = true then zex zTb d zqX10_init 100 [a0] [] (zup f y0 (zcs (f y0) 10 (.ref y1))) m else none := (zx_putfield zh_X10_init_97)
theorem ze_X10_init_100 {d : Nat} {f : zF} {nx kk n : Nat} {x0 : Nat} : zex zTb d zqX10_init 100 [.ref x0] [] f (some nx, kk, n) = zex zTb d zqX10_init 105 [.ref x0] [.ref nx, .ref x0] (zup f nx (.inl (0, (120, .inl (fun _ => 0))))) (some (nx + 1), kk + 1, n + 120) := (zxl_go (x := (101, [.ref x0], [.ref x0], f, (some nx, kk, n))) zh_X10_init_100 rfl).trans ((zx_bipush zh_X10_init_101 (by decide)).trans ((zx_newarr (N := 120) zh_X10_init_103 rfl (by decide) (by decide))))
theorem ze_X10_init_105 {d : Nat} {f : zF} {m : zM} {a0 : Value} {y0 y1 : Nat} : zex zTb d zqX10_init 105 [a0] [.ref y1, .ref y0] f m = if (zco (f y0) 9 12 && zok (zfty 9 12) (.ref y1)) = true then zex zTb d zqX10_init 108 [a0] [] (zup f y0 (zcs (f y0) 12 (.ref y1))) m else none := (zx_putfield zh_X10_init_105)
theorem ze_X10_init_108 {d : Nat} {f : zF} {nx kk n : Nat} {x0 : Nat} : zex zTb d zqX10_init 108 [.ref x0] [] f (some nx, kk, n) = zex zTb d zqX10_init 113 [.ref x0] [.ref nx, .ref x0] (zup f nx (.inl (0, (120, .inl (fun _ => 0))))) (some (nx + 1), kk + 1, n + 120) := (zxl_go (x := (109, [.ref x0], [.ref x0], f, (some nx, kk, n))) zh_X10_init_108 rfl).trans ((zx_bipush zh_X10_init_109 (by decide)).trans ((zx_newarr (N := 120) zh_X10_init_111 rfl (by decide) (by decide))))
theorem ze_X10_init_113 {d : Nat} {f : zF} {m : zM} {a0 : Value} {y0 y1 : Nat} : zex zTb d zqX10_init 113 [a0] [.ref y1, .ref y0] f m = if (zco (f y0) 9 13 && zok (zfty 9 13) (.ref y1)) = true then zex zTb d zqX10_init 116 [a0] [] (zup f y0 (zcs (f y0) 13 (.ref y1))) m else none := (zx_putfield zh_X10_init_113)
theorem ze_X10_init_116 {d : Nat} {f : zF} {nx kk n : Nat} {x0 : Nat} : zex zTb d zqX10_init 116 [.ref x0] [] f (some nx, kk, n) = zex zTb d zqX10_init 121 [.ref x0] [.ref nx, .ref x0] (zup f nx (.inl (0, (120, .inl (fun _ => 0))))) (some (nx + 1), kk + 1, n + 120) := (zxl_go (x := (117, [.ref x0], [.ref x0], f, (some nx, kk, n))) zh_X10_init_116 rfl).trans ((zx_bipush zh_X10_init_117 (by decide)).trans ((zx_newarr (N := 120) zh_X10_init_119 rfl (by decide) (by decide))))
theorem ze_X10_init_121 {d : Nat} {f : zF} {m : zM} {a0 : Value} {y0 y1 : Nat} : zex zTb d zqX10_init 121 [a0] [.ref y1, .ref y0] f m = if (zco (f y0) 9 14 && zok (zfty 9 14) (.ref y1)) = true then zex zTb d zqX10_init 124 [a0] [] (zup f y0 (zcs (f y0) 14 (.ref y1))) m else none := (zx_putfield zh_X10_init_121)
theorem ze_X10_init_124 {d : Nat} {f : zF} {nx kk n : Nat} {x0 : Nat} : zex zTb d zqX10_init 124 [.ref x0] [] f (some nx, kk, n) = zex zTb d zqX10_init 129 [.ref x0] [.ref nx, .ref x0] (zup f nx (.inl (0, (120, .inl (fun _ => 0))))) (some (nx + 1), kk + 1, n + 120) := (zxl_go (x := (125, [.ref x0], [.ref x0], f, (some nx, kk, n))) zh_X10_init_124 rfl).trans ((zx_bipush zh_X10_init_125 (by decide)).trans ((zx_newarr (N := 120) zh_X10_init_127 rfl (by decide) (by decide))))
theorem ze_X10_init_129 {d : Nat} {f : zF} {m : zM} {a0 : Value} {y0 y1 : Nat} : zex zTb d zqX10_init 129 [a0] [.ref y1, .ref y0] f m = if (zco (f y0) 9 15 && zok (zfty 9 15) (.ref y1)) = true then zex zTb d zqX10_init 132 [a0] [] (zup f y0 (zcs (f y0) 15 (.ref y1))) m else none := (zx_putfield zh_X10_init_129)
theorem ze_X10_init_132 {d : Nat} {f : zF} {nx kk n : Nat} {x0 : Nat} : zex zTb d zqX10_init 132 [.ref x0] [] f (some nx, kk, n) = zex zTb d zqX10_init 137 [.ref x0] [.ref nx, .ref x0] (zup f nx (.inl (1, (120, .inr (.inl (fun _ => 0)))))) (some (nx + 1), kk + 1, n + 120) := (zxl_go (x := (133, [.ref x0], [.ref x0], f, (some nx, kk, n))) zh_X10_init_132 rfl).trans ((zx_bipush zh_X10_init_133 (by decide)).trans ((zx_newarr (N := 120) zh_X10_init_135 rfl (by decide) (by decide))))
theorem ze_X10_init_137 {d : Nat} {f : zF} {m : zM} {a0 : Value} {y0 y1 : Nat} : zex zTb d zqX10_init 137 [a0] [.ref y1, .ref y0] f m = if (zco (f y0) 9 16 && zok (zfty 9 16) (.ref y1)) = true then zex zTb d zqX10_init 140 [a0] [] (zup f y0 (zcs (f y0) 16 (.ref y1))) m else none := (zx_putfield zh_X10_init_137)
theorem ze_X10_init_140 {d : Nat} {f : zF} {nx kk n : Nat} {x0 : Nat} : zex zTb d zqX10_init 140 [.ref x0] [] f (some nx, kk, n) = zex zTb d zqX10_init 146 [.ref x0] [.ref nx, .ref x0] (zup f nx (.inl (0, (780, .inl (fun _ => 0))))) (some (nx + 1), kk + 1, n + 780) := (zxl_go (x := (141, [.ref x0], [.ref x0], f, (some nx, kk, n))) zh_X10_init_140 rfl).trans ((zx_sipush zh_X10_init_141 (by decide)).trans ((zx_newarr (N := 780) zh_X10_init_144 rfl (by decide) (by decide))))
theorem ze_X10_init_146 {d : Nat} {f : zF} {m : zM} {a0 : Value} {y0 y1 : Nat} : zex zTb d zqX10_init 146 [a0] [.ref y1, .ref y0] f m = if (zco (f y0) 9 18 && zok (zfty 9 18) (.ref y1)) = true then zex zTb d zqX10_init 149 [a0] [] (zup f y0 (zcs (f y0) 18 (.ref y1))) m else none := (zx_putfield zh_X10_init_146)
theorem ze_X10_init_149 {d : Nat} {f : zF} {nx kk n : Nat} {x0 : Nat} : zex zTb d zqX10_init 149 [.ref x0] [] f (some nx, kk, n) = zex zTb d zqX10_init 154 [.ref x0] [.ref nx, .ref x0] (zup f nx (.inl (0, (13, .inl (fun _ => 0))))) (some (nx + 1), kk + 1, n + 13) := (zxl_go (x := (150, [.ref x0], [.ref x0], f, (some nx, kk, n))) zh_X10_init_149 rfl).trans ((zx_bipush zh_X10_init_150 (by decide)).trans ((zx_newarr (N := 13) zh_X10_init_152 rfl (by decide) (by decide))))
theorem ze_X10_init_154 {d : Nat} {f : zF} {m : zM} {a0 : Value} {y0 y1 : Nat} : zex zTb d zqX10_init 154 [a0] [.ref y1, .ref y0] f m = if (zco (f y0) 9 19 && zok (zfty 9 19) (.ref y1)) = true then zex zTb d zqX10_init 157 [a0] [] (zup f y0 (zcs (f y0) 19 (.ref y1))) m else none := (zx_putfield zh_X10_init_154)
theorem ze_X10_init_157 {d : Nat} {f : zF} {nx kk n : Nat} {x0 : Nat} : zex zTb d zqX10_init 157 [.ref x0] [] f (some nx, kk, n) = zex zTb d zqX10_init 163 [.ref x0] [.ref nx, .ref x0] (zup f nx (.inl (3, (240, .inl (fun _ => 0))))) (some (nx + 1), kk + 1, n + 240) := (zxl_go (x := (158, [.ref x0], [.ref x0], f, (some nx, kk, n))) zh_X10_init_157 rfl).trans ((zx_sipush zh_X10_init_158 (by decide)).trans ((zx_newarr (N := 240) zh_X10_init_161 rfl (by decide) (by decide))))
theorem ze_X10_init_163 {d : Nat} {f : zF} {m : zM} {a0 : Value} {y0 y1 : Nat} : zex zTb d zqX10_init 163 [a0] [.ref y1, .ref y0] f m = if (zco (f y0) 9 22 && zok (zfty 9 22) (.ref y1)) = true then zex zTb d zqX10_init 166 [a0] [] (zup f y0 (zcs (f y0) 22 (.ref y1))) m else none := (zx_putfield zh_X10_init_163)
theorem ze_X10_init_166 {d : Nat} {f : zF} {nx kk n : Nat} {x0 : Nat} : zex zTb d zqX10_init 166 [.ref x0] [] f (some nx, kk, n) = zex zTb d zqX10_init 171 [.ref x0] [.ref nx, .ref x0] (zup f nx (.inl (1, (60, .inr (.inl (fun _ => 0)))))) (some (nx + 1), kk + 1, n + 60) := (zxl_go (x := (167, [.ref x0], [.ref x0], f, (some nx, kk, n))) zh_X10_init_166 rfl).trans ((zx_bipush zh_X10_init_167 (by decide)).trans ((zx_newarr (N := 60) zh_X10_init_169 rfl (by decide) (by decide))))
theorem ze_X10_init_171 {d : Nat} {f : zF} {m : zM} {a0 : Value} {y0 y1 : Nat} : zex zTb d zqX10_init 171 [a0] [.ref y1, .ref y0] f m = if (zco (f y0) 9 24 && zok (zfty 9 24) (.ref y1)) = true then zex zTb d zqX10_init 174 [a0] [] (zup f y0 (zcs (f y0) 24 (.ref y1))) m else none := (zx_putfield zh_X10_init_171)
theorem ze_X10_init_174 {d : Nat} {f : zF} {m : zM} {x0 : Nat} : zex zTb d zqX10_init 174 [.ref x0] [] f m = if zisc (f x0) 9 = true then zcal zTb (zrun zTb d 122 [.ref x0] f m) d zqX10_init 175 178 [.ref x0] [] else none := (zxl_go (x := (175, [.ref x0], [.ref x0], f, m)) zh_X10_init_174 rfl).trans ((zx_virtual4 zh_X10_init_175 (Nat.le_of_ble_eq_true rfl) rfl rfl (Nat.le_of_ble_eq_true rfl)))
theorem ze_X10_init_178 {d : Nat} {f : zF} {m : zM} {a0 : Value} : zex zTb d zqX10_init 178 [a0] [] f m = some (.inl none, f, m) := (zx_ret zh_X10_init_178 rfl)
-- X10_thrown
theorem zh_X10_thrown_0 : zfe zqX10_thrown.i 0 = some (0, .aload_n 0, 1, 0, 0, 0) := rfl
theorem zh_X10_thrown_1 : zfe zqX10_thrown.i 1 = some (1, .getfield 67, 3, 9, 0, 0) := rfl
theorem zh_X10_thrown_4 : zfe zqX10_thrown.i 4 = some (4, .ireturn, 1, 0, 0, 0) := rfl
theorem ze_X10_thrown_0 {d : Nat} {f : zF} {m : zM} {x0 : Nat} : zex zTb d zqX10_thrown 0 [.ref x0] [] f m = if zco (f x0) 9 0 = true then zex zTb d zqX10_thrown 4 [.ref x0] [zcf (f x0) 0] f m else none := (zxl_go (x := (1, [.ref x0], [.ref x0], f, m)) zh_X10_thrown_0 rfl).trans ((zx_getfield zh_X10_thrown_1))
theorem ze_X10_thrown_4 {d : Nat} {f : zF} {m : zM} {a0 : Value} {y0 : Int32} : zex zTb d zqX10_thrown 4 [a0] [.int y0] f m = some (.inl (some (.int y0)), f, m) := (zx_iret zh_X10_thrown_4 (by first | rfl | decide))
-- X10_no
theorem zh_X10_no_0 : zfe zqX10_no.i 0 = some (0, .aload_n 0, 1, 0, 0, 0) := rfl
theorem zh_X10_no_1 : zfe zqX10_no.i 1 = some (1, .iload_n 1, 1, 0, 0, 0) := rfl
theorem zh_X10_no_2 : zfe zqX10_no.i 2 = some (2, .putfield 67, 3, 9, 0, 0) := rfl
theorem zh_X10_no_5 : zfe zqX10_no.i 5 = some (5, .iconst 0, 1, 0, 0, 0) := rfl
theorem zh_X10_no_6 : zfe zqX10_no.i 6 = some (6, .ireturn, 1, 0, 0, 0) := rfl
theorem ze_X10_no_0 {d : Nat} {f : zF} {m : zM} {x0 : Nat} {x1 : Int32} : zex zTb d zqX10_no 0 [.ref x0, .int x1] [] f m = if (zco (f x0) 9 0 && zok (zfty 9 0) (.int x1)) = true then zex zTb d zqX10_no 5 [.ref x0, .int x1] [] (zup f x0 (zcs (f x0) 0 (.int x1))) m else none := (zxl_go (x := (1, [.ref x0, .int x1], [.ref x0], f, m)) zh_X10_no_0 rfl).trans ((zxl_go (x := (2, [.ref x0, .int x1], [.int x1, .ref x0], f, m)) zh_X10_no_1 rfl).trans ((zx_putfield zh_X10_no_2)))
theorem ze_X10_no_5 {d : Nat} {f : zF} {m : zM} {a0 a1 : Value} : zex zTb d zqX10_no 5 [a0, a1] [] f m = some (.inl (some (.int (I 0))), f, m) := (zx_iconst zh_X10_no_5).trans ((zx_iret zh_X10_no_6 (by first | rfl | decide)))
-- X10_isIn
theorem zh_X10_isIn_0 : zfe zqX10_isIn.i 0 = some (0, .iload_n 0, 1, 0, 0, 0) := rfl
theorem zh_X10_isIn_1 : zfe zqX10_isIn.i 1 = some (1, .iload_n 1, 1, 0, 0, 0) := rfl
theorem zh_X10_isIn_2 : zfe zqX10_isIn.i 2 = some (2, .if_icmp .lt 12, 3, 0, 0, 0) := rfl
theorem zh_X10_isIn_5 : zfe zqX10_isIn.i 5 = some (5, .iload_n 0, 1, 0, 0, 0) := rfl
theorem zh_X10_isIn_6 : zfe zqX10_isIn.i 6 = some (6, .iload_n 2, 1, 0, 0, 0) := rfl
theorem zh_X10_isIn_7 : zfe zqX10_isIn.i 7 = some (7, .if_icmp .gt 7, 3, 0, 0, 0) := rfl
theorem zh_X10_isIn_10 : zfe zqX10_isIn.i 10 = some (10, .iconst 1, 1, 0, 0, 0) := rfl
theorem zh_X10_isIn_11 : zfe zqX10_isIn.i 11 = some (11, .goto 4, 3, 0, 0, 0) := rfl
theorem zh_X10_isIn_14 : zfe zqX10_isIn.i 14 = some (14, .iconst 0, 1, 0, 0, 0) := rfl
theorem zh_X10_isIn_15 : zfe zqX10_isIn.i 15 = some (15, .ireturn, 1, 0, 0, 0) := rfl
theorem ze_X10_isIn_0 {d : Nat} {f : zF} {m : zM} {x0 x1 : Int32} {a2 : Value} : zex zTb d zqX10_isIn 0 [.int x0, .int x1, a2] [] f m = if zc2 .lt x0 x1 = true then zex zTb d zqX10_isIn 14 [.int x0, .int x1, a2] [] f m else zex zTb d zqX10_isIn 5 [.int x0, .int x1, a2] [] f m := (zxl_go (x := (1, [.int x0, .int x1, a2], [.int x0], f, m)) zh_X10_isIn_0 rfl).trans ((zxl_go (x := (2, [.int x0, .int x1, a2], [.int x1, .int x0], f, m)) zh_X10_isIn_1 rfl).trans ((zx_icmp (tgt := 14) zh_X10_isIn_2 rfl)))
theorem ze_X10_isIn_5 {d : Nat} {f : zF} {m : zM} {x0 x2 : Int32} {a1 : Value} : zex zTb d zqX10_isIn 5 [.int x0, a1, .int x2] [] f m = if zc2 .gt x0 x2 = true then zex zTb d zqX10_isIn 14 [.int x0, a1, .int x2] [] f m else zex zTb d zqX10_isIn 10 [.int x0, a1, .int x2] [] f m := (zxl_go (x := (6, [.int x0, a1, .int x2], [.int x0], f, m)) zh_X10_isIn_5 rfl).trans ((zxl_go (x := (7, [.int x0, a1, .int x2], [.int x2, .int x0], f, m)) zh_X10_isIn_6 rfl).trans ((zx_icmp (tgt := 14) zh_X10_isIn_7 rfl)))
theorem ze_X10_isIn_10 {d : Nat} {f : zF} {m : zM} {a0 a1 a2 : Value} : zex zTb d zqX10_isIn 10 [a0, a1, a2] [] f m = some (.inl (some (.int (I 1))), f, m) := (zx_iconst zh_X10_isIn_10).trans ((zx_goto zh_X10_isIn_11 rfl).trans ((zx_iret zh_X10_isIn_15 (by first | rfl | decide))))
theorem ze_X10_isIn_14 {d : Nat} {f : zF} {m : zM} {a0 a1 a2 : Value} : zex zTb d zqX10_isIn 14 [a0, a1, a2] [] f m = some (.inl (some (.int (I 0))), f, m) := (zx_iconst zh_X10_isIn_14).trans ((zx_iret zh_X10_isIn_15 (by first | rfl | decide)))
-- X10_isExample
theorem zh_X10_isExample_0 : zfe zqX10_isExample.i 0 = some (0, .iload_n 1, 1, 0, 0, 0) := rfl
theorem zh_X10_isExample_1 : zfe zqX10_isExample.i 1 = some (1, .iconst 0, 1, 0, 0, 0) := rfl
theorem zh_X10_isExample_2 : zfe zqX10_isExample.i 2 = some (2, .aload_n 0, 1, 0, 0, 0) := rfl
theorem zh_X10_isExample_3 : zfe zqX10_isExample.i 3 = some (3, .getfield 71, 3, 9, 1, 0) := rfl
theorem zh_X10_isExample_6 : zfe zqX10_isExample.i 6 = some (6, .iconst 1, 1, 0, 0, 0) := rfl
theorem zh_X10_isExample_7 : zfe zqX10_isExample.i 7 = some (7, .isub, 1, 0, 0, 0) := rfl
theorem zh_X10_isExample_8 : zfe zqX10_isExample.i 8 = some (8, .invokestatic 74, 3, 115, 3, 0) := rfl
theorem zh_X10_isExample_11 : zfe zqX10_isExample.i 11 = some (11, .ireturn, 1, 0, 0, 0) := rfl
theorem ze_X10_isExample_0 {d : Nat} {f : zF} {m : zM} {x0 : Nat} {x1 : Int32} : zex zTb d zqX10_isExample 0 [.ref x0, .int x1] [] f m = if zco (f x0) 9 1 = true then zex zTb d zqX10_isExample 6 [.ref x0, .int x1] [zcf (f x0) 1, .int (I 0), .int x1] f m else none := (zxl_go (x := (1, [.ref x0, .int x1], [.int x1], f, m)) zh_X10_isExample_0 rfl).trans ((zx_iconst zh_X10_isExample_1).trans ((zxl_go (x := (3, [.ref x0, .int x1], [.ref x0, .int (I 0), .int x1], f, m)) zh_X10_isExample_2 rfl).trans ((zx_getfield zh_X10_isExample_3))))
theorem ze_X10_isExample_6 {d : Nat} {f : zF} {m : zM} {a0 a1 : Value} {y0 y1 y2 : Int32} : zex zTb d zqX10_isExample 6 [a0, a1] [.int y2, .int y1, .int y0] f m = zcal zTb (zrun zTb d 115 [.int y0, .int y1, .int (y2 - (I 1))] f m) d zqX10_isExample 8 11 [a0, a1] [] := (zx_iconst zh_X10_isExample_6).trans ((zxl_go (x := (8, [a0, a1], [.int (y2 - (I 1)), .int y1, .int y0], f, m)) zh_X10_isExample_7 rfl).trans (((zx_static zh_X10_isExample_8 (Nat.le_of_ble_eq_true rfl) rfl rfl).trans (if_pos (Nat.le_of_ble_eq_true rfl)))))
theorem ze_X10_isExample_11 {d : Nat} {f : zF} {m : zM} {a0 a1 : Value} {y0 : Int32} : zex zTb d zqX10_isExample 11 [a0, a1] [.int y0] f m = if (y0 = 0 ∨ y0 = 1) then some (.inl (some (.int y0)), f, m) else none := (zx_bret zh_X10_isExample_11 rfl)
-- X10_read
theorem zh_X10_read_0 : zfe zqX10_read.i 0 = some (0, .iconst 0, 1, 0, 0, 0) := rfl
theorem zh_X10_read_1 : zfe zqX10_read.i 1 = some (1, .istore_n 2, 1, 0, 0, 0) := rfl
theorem zh_X10_read_2 : zfe zqX10_read.i 2 = some (2, .bipush 56, 2, 0, 0, 0) := rfl
theorem zh_X10_read_4 : zfe zqX10_read.i 4 = some (4, .istore_n 3, 1, 0, 0, 0) := rfl
theorem zh_X10_read_5 : zfe zqX10_read.i 5 = some (5, .iload_n 3, 1, 0, 0, 0) := rfl
theorem zh_X10_read_6 : zfe zqX10_read.i 6 = some (6, .ifCond .lt 58, 3, 0, 0, 0) := rfl
theorem zh_X10_read_9 : zfe zqX10_read.i 9 = some (9, .lload_n 0, 1, 0, 0, 0) := rfl
theorem zh_X10_read_10 : zfe zqX10_read.i 10 = some (10, .iload_n 3, 1, 0, 0, 0) := rfl
theorem zh_X10_read_11 : zfe zqX10_read.i 11 = some (11, .lshr, 1, 0, 0, 0) := rfl
theorem zh_X10_read_12 : zfe zqX10_read.i 12 = some (12, .ldc2_w 78, 3, 255, 0, 0) := rfl
theorem zh_X10_read_15 : zfe zqX10_read.i 15 = some (15, .land, 1, 0, 0, 0) := rfl
theorem zh_X10_read_16 : zfe zqX10_read.i 16 = some (16, .l2i, 1, 0, 0, 0) := rfl
theorem zh_X10_read_17 : zfe zqX10_read.i 17 = some (17, .istore 4, 2, 0, 0, 0) := rfl
theorem zh_X10_read_19 : zfe zqX10_read.i 19 = some (19, .iload 4, 2, 0, 0, 0) := rfl
theorem zh_X10_read_21 : zfe zqX10_read.i 21 = some (21, .ifCond .ne 6, 3, 0, 0, 0) := rfl
theorem zh_X10_read_24 : zfe zqX10_read.i 24 = some (24, .goto 34, 3, 0, 0, 0) := rfl
theorem zh_X10_read_27 : zfe zqX10_read.i 27 = some (27, .iload 4, 2, 0, 0, 0) := rfl
theorem zh_X10_read_29 : zfe zqX10_read.i 29 = some (29, .bipush 97, 2, 0, 0, 0) := rfl
theorem zh_X10_read_31 : zfe zqX10_read.i 31 = some (31, .bipush 99, 2, 0, 0, 0) := rfl
theorem zh_X10_read_33 : zfe zqX10_read.i 33 = some (33, .invokestatic 74, 3, 115, 3, 0) := rfl
theorem zh_X10_read_36 : zfe zqX10_read.i 36 = some (36, .ifCond .eq 10, 3, 0, 0, 0) := rfl
theorem zh_X10_read_39 : zfe zqX10_read.i 39 = some (39, .iload_n 2, 1, 0, 0, 0) := rfl
theorem zh_X10_read_40 : zfe zqX10_read.i 40 = some (40, .sipush 1024, 3, 0, 0, 0) := rfl
theorem zh_X10_read_43 : zfe zqX10_read.i 43 = some (43, .if_icmp .lt 5, 3, 0, 0, 0) := rfl
theorem zh_X10_read_46 : zfe zqX10_read.i 46 = some (46, .iconst (-1), 1, 0, 0, 0) := rfl
theorem zh_X10_read_47 : zfe zqX10_read.i 47 = some (47, .ireturn, 1, 0, 0, 0) := rfl
theorem zh_X10_read_48 : zfe zqX10_read.i 48 = some (48, .iconst 4, 1, 0, 0, 0) := rfl
theorem zh_X10_read_49 : zfe zqX10_read.i 49 = some (49, .iload_n 2, 1, 0, 0, 0) := rfl
theorem zh_X10_read_50 : zfe zqX10_read.i 50 = some (50, .imul, 1, 0, 0, 0) := rfl
theorem zh_X10_read_51 : zfe zqX10_read.i 51 = some (51, .iload 4, 2, 0, 0, 0) := rfl
theorem zh_X10_read_53 : zfe zqX10_read.i 53 = some (53, .iadd, 1, 0, 0, 0) := rfl
theorem zh_X10_read_54 : zfe zqX10_read.i 54 = some (54, .bipush 96, 2, 0, 0, 0) := rfl
theorem zh_X10_read_56 : zfe zqX10_read.i 56 = some (56, .isub, 1, 0, 0, 0) := rfl
theorem zh_X10_read_57 : zfe zqX10_read.i 57 = some (57, .istore_n 2, 1, 0, 0, 0) := rfl
theorem zh_X10_read_58 : zfe zqX10_read.i 58 = some (58, .iinc 3 (-8), 3, 0, 0, 0) := rfl
theorem zh_X10_read_61 : zfe zqX10_read.i 61 = some (61, .goto (-56), 3, 0, 0, 0) := rfl
theorem zh_X10_read_64 : zfe zqX10_read.i 64 = some (64, .iload_n 2, 1, 0, 0, 0) := rfl
theorem zh_X10_read_65 : zfe zqX10_read.i 65 = some (65, .ireturn, 1, 0, 0, 0) := rfl
theorem ze_X10_read_0 {d : Nat} {f : zF} {m : zM} {a0 a1 a2 a3 a4 : Value} : zex zTb d zqX10_read 0 [a0, a1, a2, a3, a4] [] f m = zex zTb d zqX10_read 5 [a0, (zclr a1), .int (I 0), .int (I 56), a4] [] f m := (zx_iconst zh_X10_read_0).trans ((zxl_go (x := (2, [a0, (zclr a1), .int (I 0), a3, a4], [], f, m)) zh_X10_read_1 rfl).trans ((zx_bipush zh_X10_read_2 (by decide)).trans ((zxl_go (x := (5, [a0, (zclr a1), .int (I 0), .int (I 56), a4], [], f, m)) zh_X10_read_4 rfl))))
theorem ze_X10_read_5 {d : Nat} {f : zF} {m : zM} {a0 a1 a2 a4 : Value} {x3 : Int32} : zex zTb d zqX10_read 5 [a0, a1, a2, .int x3, a4] [] f m = if zc1 .lt x3 = true then zex zTb d zqX10_read 64 [a0, a1, a2, .int x3, a4] [] f m else zex zTb d zqX10_read 9 [a0, a1, a2, .int x3, a4] [] f m := (zxl_go (x := (6, [a0, a1, a2, .int x3, a4], [.int x3], f, m)) zh_X10_read_5 rfl).trans ((zx_if (tgt := 64) zh_X10_read_6 rfl))
theorem ze_X10_read_9 {d : Nat} {f : zF} {m : zM} {x0 : Int64} {a1 a2 a4 : Value} {x3 : Int32} : zex zTb d zqX10_read 9 [.long x0, a1, a2, .int x3, a4] [] f m = if zc1 .ne (((x0 >>> (x3.toInt64 &&& 63)) &&& (J 255)).toInt32) = true then zex zTb d zqX10_read 27 [.long x0, a1, a2, .int x3, .int (((x0 >>> (x3.toInt64 &&& 63)) &&& (J 255)).toInt32)] [] f m else zex zTb d zqX10_read 24 [.long x0, a1, a2, .int x3, .int (((x0 >>> (x3.toInt64 &&& 63)) &&& (J 255)).toInt32)] [] f m := (zxl_go (x := (10, [.long x0, a1, a2, .int x3, a4], [.long x0], f, m)) zh_X10_read_9 rfl).trans ((zxl_go (x := (11, [.long x0, a1, a2, .int x3, a4], [.int x3, .long x0], f, m)) zh_X10_read_10 rfl).trans ((zxl_go (x := (12, [.long x0, a1, a2, .int x3, a4], [.long (x0 >>> (x3.toInt64 &&& 63))], f, m)) zh_X10_read_11 rfl).trans ((zx_ldc2 (v := 255) zh_X10_read_12 (by decide)).trans ((zxl_go (x := (16, [.long x0, a1, a2, .int x3, a4], [.long ((x0 >>> (x3.toInt64 &&& 63)) &&& (J 255))], f, m)) zh_X10_read_15 rfl).trans ((zxl_go (x := (17, [.long x0, a1, a2, .int x3, a4], [.int (((x0 >>> (x3.toInt64 &&& 63)) &&& (J 255)).toInt32)], f, m)) zh_X10_read_16 rfl).trans ((zxl_go (x := (19, [.long x0, a1, a2, .int x3, .int (((x0 >>> (x3.toInt64 &&& 63)) &&& (J 255)).toInt32)], [], f, m)) zh_X10_read_17 rfl).trans ((zxl_go (x := (21, [.long x0, a1, a2, .int x3, .int (((x0 >>> (x3.toInt64 &&& 63)) &&& (J 255)).toInt32)], [.int (((x0 >>> (x3.toInt64 &&& 63)) &&& (J 255)).toInt32)], f, m)) zh_X10_read_19 rfl).trans ((zx_if (tgt := 27) zh_X10_read_21 rfl)))))))))
theorem ze_X10_read_24 {d : Nat} {f : zF} {m : zM} {a0 a1 a2 a4 : Value} {x3 : Int32} : zex zTb d zqX10_read 24 [a0, a1, a2, .int x3, a4] [] f m = zex zTb d zqX10_read 5 [a0, a1, (zclr a2), .int (x3 + I (-8)), a4] [] f m := (zx_goto zh_X10_read_24 rfl).trans ((zxl_go (x := (61, [a0, a1, (zclr a2), .int (x3 + I (-8)), a4], [], f, m)) zh_X10_read_58 rfl).trans ((zx_goto zh_X10_read_61 rfl)))
theorem ze_X10_read_27 {d : Nat} {f : zF} {m : zM} {a0 a1 a2 a3 : Value} {x4 : Int32} : zex zTb d zqX10_read 27 [a0, a1, a2, a3, .int x4] [] f m = zcal zTb (zrun zTb d 115 [.int x4, .int (I 97), .int (I 99)] f m) d zqX10_read 33 36 [a0, a1, a2, a3, .int x4] [] := (zxl_go (x := (29, [a0, a1, a2, a3, .int x4], [.int x4], f, m)) zh_X10_read_27 rfl).trans ((zx_bipush zh_X10_read_29 (by decide)).trans ((zx_bipush zh_X10_read_31 (by decide)).trans (((zx_static zh_X10_read_33 (Nat.le_of_ble_eq_true rfl) rfl rfl).trans (if_pos (Nat.le_of_ble_eq_true rfl))))))
theorem ze_X10_read_36 {d : Nat} {f : zF} {m : zM} {a0 a1 a2 a3 a4 : Value} {y0 : Int32} : zex zTb d zqX10_read 36 [a0, a1, a2, a3, a4] [.int y0] f m = if zc1 .eq y0 = true then zex zTb d zqX10_read 46 [a0, a1, a2, a3, a4] [] f m else zex zTb d zqX10_read 39 [a0, a1, a2, a3, a4] [] f m := (zx_if (tgt := 46) zh_X10_read_36 rfl)
theorem ze_X10_read_39 {d : Nat} {f : zF} {m : zM} {a0 a1 a3 a4 : Value} {x2 : Int32} : zex zTb d zqX10_read 39 [a0, a1, .int x2, a3, a4] [] f m = if zc2 .lt x2 (I 1024) = true then zex zTb d zqX10_read 48 [a0, a1, .int x2, a3, a4] [] f m else zex zTb d zqX10_read 46 [a0, a1, .int x2, a3, a4] [] f m := (zxl_go (x := (40, [a0, a1, .int x2, a3, a4], [.int x2], f, m)) zh_X10_read_39 rfl).trans ((zx_sipush zh_X10_read_40 (by decide)).trans ((zx_icmp (tgt := 48) zh_X10_read_43 rfl)))
theorem ze_X10_read_46 {d : Nat} {f : zF} {m : zM} {a0 a1 a2 a3 a4 : Value} : zex zTb d zqX10_read 46 [a0, a1, a2, a3, a4] [] f m = some (.inl (some (.int (I (-1)))), f, m) := (zx_iconst zh_X10_read_46).trans ((zx_iret zh_X10_read_47 (by first | rfl | decide)))
theorem ze_X10_read_48 {d : Nat} {f : zF} {m : zM} {a0 a1 : Value} {x2 x3 x4 : Int32} : zex zTb d zqX10_read 48 [a0, a1, .int x2, .int x3, .int x4] [] f m = zex zTb d zqX10_read 5 [a0, (zclr a1), .int ((((I 4) * x2) + x4) - (I 96)), .int (x3 + I (-8)), .int x4] [] f m := (zx_iconst zh_X10_read_48).trans ((zxl_go (x := (50, [a0, a1, .int x2, .int x3, .int x4], [.int x2, .int (I 4)], f, m)) zh_X10_read_49 rfl).trans ((zxl_go (x := (51, [a0, a1, .int x2, .int x3, .int x4], [.int ((I 4) * x2)], f, m)) zh_X10_read_50 rfl).trans ((zxl_go (x := (53, [a0, a1, .int x2, .int x3, .int x4], [.int x4, .int ((I 4) * x2)], f, m)) zh_X10_read_51 rfl).trans ((zxl_go (x := (54, [a0, a1, .int x2, .int x3, .int x4], [.int (((I 4) * x2) + x4)], f, m)) zh_X10_read_53 rfl).trans ((zx_bipush zh_X10_read_54 (by decide)).trans ((zxl_go (x := (57, [a0, a1, .int x2, .int x3, .int x4], [.int ((((I 4) * x2) + x4) - (I 96))], f, m)) zh_X10_read_56 rfl).trans ((zxl_go (x := (58, [a0, (zclr a1), .int ((((I 4) * x2) + x4) - (I 96)), .int x3, .int x4], [], f, m)) zh_X10_read_57 rfl).trans ((zxl_go (x := (61, [a0, (zclr a1), .int ((((I 4) * x2) + x4) - (I 96)), .int (x3 + I (-8)), .int x4], [], f, m)) zh_X10_read_58 rfl).trans ((zx_goto zh_X10_read_61 rfl))))))))))
theorem ze_X10_read_64 {d : Nat} {f : zF} {m : zM} {a0 a1 a3 a4 : Value} {x2 : Int32} : zex zTb d zqX10_read 64 [a0, a1, .int x2, a3, a4] [] f m = some (.inl (some (.int x2)), f, m) := (zxl_go (x := (65, [a0, a1, .int x2, a3, a4], [.int x2], f, m)) zh_X10_read_64 rfl).trans ((zx_iret zh_X10_read_65 (by first | rfl | decide)))
-- X10_tell
theorem zh_X10_tell_0 : zfe zqX10_tell.i 0 = some (0, .lconst 0, 1, 0, 0, 0) := rfl
theorem zh_X10_tell_1 : zfe zqX10_tell.i 1 = some (1, .lstore_n 1, 1, 0, 0, 0) := rfl
theorem zh_X10_tell_2 : zfe zqX10_tell.i 2 = some (2, .iload_n 0, 1, 0, 0, 0) := rfl
theorem zh_X10_tell_3 : zfe zqX10_tell.i 3 = some (3, .invokestatic 80, 3, 119, 1, 0) := rfl
theorem zh_X10_tell_6 : zfe zqX10_tell.i 6 = some (6, .iconst 1, 1, 0, 0, 0) := rfl
theorem zh_X10_tell_7 : zfe zqX10_tell.i 7 = some (7, .isub, 1, 0, 0, 0) := rfl
theorem zh_X10_tell_8 : zfe zqX10_tell.i 8 = some (8, .istore_n 3, 1, 0, 0, 0) := rfl
theorem zh_X10_tell_9 : zfe zqX10_tell.i 9 = some (9, .iload_n 3, 1, 0, 0, 0) := rfl
theorem zh_X10_tell_10 : zfe zqX10_tell.i 10 = some (10, .ifCond .lt 27, 3, 0, 0, 0) := rfl
theorem zh_X10_tell_13 : zfe zqX10_tell.i 13 = some (13, .lload_n 1, 1, 0, 0, 0) := rfl
theorem zh_X10_tell_14 : zfe zqX10_tell.i 14 = some (14, .bipush 8, 2, 0, 0, 0) := rfl
theorem zh_X10_tell_16 : zfe zqX10_tell.i 16 = some (16, .lshl, 1, 0, 0, 0) := rfl
theorem zh_X10_tell_17 : zfe zqX10_tell.i 17 = some (17, .ldc2_w 84, 3, 96, 0, 0) := rfl
theorem zh_X10_tell_20 : zfe zqX10_tell.i 20 = some (20, .iload_n 0, 1, 0, 0, 0) := rfl
theorem zh_X10_tell_21 : zfe zqX10_tell.i 21 = some (21, .iconst 2, 1, 0, 0, 0) := rfl
theorem zh_X10_tell_22 : zfe zqX10_tell.i 22 = some (22, .iload_n 3, 1, 0, 0, 0) := rfl
theorem zh_X10_tell_23 : zfe zqX10_tell.i 23 = some (23, .imul, 1, 0, 0, 0) := rfl
theorem zh_X10_tell_24 : zfe zqX10_tell.i 24 = some (24, .ishr, 1, 0, 0, 0) := rfl
theorem zh_X10_tell_25 : zfe zqX10_tell.i 25 = some (25, .iconst 3, 1, 0, 0, 0) := rfl
theorem zh_X10_tell_26 : zfe zqX10_tell.i 26 = some (26, .iand, 1, 0, 0, 0) := rfl
theorem zh_X10_tell_27 : zfe zqX10_tell.i 27 = some (27, .i2l, 1, 0, 0, 0) := rfl
theorem zh_X10_tell_28 : zfe zqX10_tell.i 28 = some (28, .ladd, 1, 0, 0, 0) := rfl
theorem zh_X10_tell_29 : zfe zqX10_tell.i 29 = some (29, .lor, 1, 0, 0, 0) := rfl
theorem zh_X10_tell_30 : zfe zqX10_tell.i 30 = some (30, .lstore_n 1, 1, 0, 0, 0) := rfl
theorem zh_X10_tell_31 : zfe zqX10_tell.i 31 = some (31, .iinc 3 (-1), 3, 0, 0, 0) := rfl
theorem zh_X10_tell_34 : zfe zqX10_tell.i 34 = some (34, .goto (-25), 3, 0, 0, 0) := rfl
theorem zh_X10_tell_37 : zfe zqX10_tell.i 37 = some (37, .lload_n 1, 1, 0, 0, 0) := rfl
theorem zh_X10_tell_38 : zfe zqX10_tell.i 38 = some (38, .lreturn, 1, 0, 0, 0) := rfl
theorem ze_X10_tell_0 {d : Nat} {f : zF} {m : zM} {x0 : Int32} {a1 a2 a3 : Value} : zex zTb d zqX10_tell 0 [.int x0, a1, a2, a3] [] f m = zcal zTb (zrun zTb d 119 [.int x0] f m) d zqX10_tell 3 6 [.int x0, .long (J 0), .null, a3] [] := (zx_lconst (v := 0) zh_X10_tell_0 (by decide)).trans ((zxl_go (x := (2, [.int x0, .long (J 0), .null, a3], [], f, m)) zh_X10_tell_1 rfl).trans ((zxl_go (x := (3, [.int x0, .long (J 0), .null, a3], [.int x0], f, m)) zh_X10_tell_2 rfl).trans (((zx_static zh_X10_tell_3 (Nat.le_of_ble_eq_true rfl) rfl rfl).trans (if_pos (Nat.le_of_ble_eq_true rfl))))))
theorem ze_X10_tell_6 {d : Nat} {f : zF} {m : zM} {a0 a1 a2 a3 : Value} {y0 : Int32} : zex zTb d zqX10_tell 6 [a0, a1, a2, a3] [.int y0] f m = zex zTb d zqX10_tell 9 [a0, a1, (zclr a2), .int (y0 - (I 1))] [] f m := (zx_iconst zh_X10_tell_6).trans ((zxl_go (x := (8, [a0, a1, a2, a3], [.int (y0 - (I 1))], f, m)) zh_X10_tell_7 rfl).trans ((zxl_go (x := (9, [a0, a1, (zclr a2), .int (y0 - (I 1))], [], f, m)) zh_X10_tell_8 rfl)))
theorem ze_X10_tell_9 {d : Nat} {f : zF} {m : zM} {a0 a1 a2 : Value} {x3 : Int32} : zex zTb d zqX10_tell 9 [a0, a1, a2, .int x3] [] f m = if zc1 .lt x3 = true then zex zTb d zqX10_tell 37 [a0, a1, a2, .int x3] [] f m else zex zTb d zqX10_tell 13 [a0, a1, a2, .int x3] [] f m := (zxl_go (x := (10, [a0, a1, a2, .int x3], [.int x3], f, m)) zh_X10_tell_9 rfl).trans ((zx_if (tgt := 37) zh_X10_tell_10 rfl))
theorem ze_X10_tell_13 {d : Nat} {f : zF} {m : zM} {x0 x3 : Int32} {x1 : Int64} {a2 : Value} : zex zTb d zqX10_tell 13 [.int x0, .long x1, a2, .int x3] [] f m = zex zTb d zqX10_tell 9 [.int x0, .long ((x1 <<< ((I 8).toInt64 &&& 63)) ||| ((J 96) + (((x0 >>> (((I 2) * x3) &&& 31)) &&& (I 3)).toInt64))), .null, .int (x3 + I (-1))] [] f m := (zxl_go (x := (14, [.int x0, .long x1, a2, .int x3], [.long x1], f, m)) zh_X10_tell_13 rfl).trans ((zx_bipush zh_X10_tell_14 (by decide)).trans ((zxl_go (x := (17, [.int x0, .long x1, a2, .int x3], [.long (x1 <<< ((I 8).toInt64 &&& 63))], f, m)) zh_X10_tell_16 rfl).trans ((zx_ldc2 (v := 96) zh_X10_tell_17 (by decide)).trans ((zxl_go (x := (21, [.int x0, .long x1, a2, .int x3], [.int x0, .long (J 96), .long (x1 <<< ((I 8).toInt64 &&& 63))], f, m)) zh_X10_tell_20 rfl).trans ((zx_iconst zh_X10_tell_21).trans ((zxl_go (x := (23, [.int x0, .long x1, a2, .int x3], [.int x3, .int (I 2), .int x0, .long (J 96), .long (x1 <<< ((I 8).toInt64 &&& 63))], f, m)) zh_X10_tell_22 rfl).trans ((zxl_go (x := (24, [.int x0, .long x1, a2, .int x3], [.int ((I 2) * x3), .int x0, .long (J 96), .long (x1 <<< ((I 8).toInt64 &&& 63))], f, m)) zh_X10_tell_23 rfl).trans ((zxl_go (x := (25, [.int x0, .long x1, a2, .int x3], [.int (x0 >>> (((I 2) * x3) &&& 31)), .long (J 96), .long (x1 <<< ((I 8).toInt64 &&& 63))], f, m)) zh_X10_tell_24 rfl).trans ((zx_iconst zh_X10_tell_25).trans ((zxl_go (x := (27, [.int x0, .long x1, a2, .int x3], [.int ((x0 >>> (((I 2) * x3) &&& 31)) &&& (I 3)), .long (J 96), .long (x1 <<< ((I 8).toInt64 &&& 63))], f, m)) zh_X10_tell_26 rfl).trans ((zxl_go (x := (28, [.int x0, .long x1, a2, .int x3], [.long (((x0 >>> (((I 2) * x3) &&& 31)) &&& (I 3)).toInt64), .long (J 96), .long (x1 <<< ((I 8).toInt64 &&& 63))], f, m)) zh_X10_tell_27 rfl).trans ((zxl_go (x := (29, [.int x0, .long x1, a2, .int x3], [.long ((J 96) + (((x0 >>> (((I 2) * x3) &&& 31)) &&& (I 3)).toInt64)), .long (x1 <<< ((I 8).toInt64 &&& 63))], f, m)) zh_X10_tell_28 rfl).trans ((zxl_go (x := (30, [.int x0, .long x1, a2, .int x3], [.long ((x1 <<< ((I 8).toInt64 &&& 63)) ||| ((J 96) + (((x0 >>> (((I 2) * x3) &&& 31)) &&& (I 3)).toInt64)))], f, m)) zh_X10_tell_29 rfl).trans ((zxl_go (x := (31, [.int x0, .long ((x1 <<< ((I 8).toInt64 &&& 63)) ||| ((J 96) + (((x0 >>> (((I 2) * x3) &&& 31)) &&& (I 3)).toInt64))), .null, .int x3], [], f, m)) zh_X10_tell_30 rfl).trans ((zxl_go (x := (34, [.int x0, .long ((x1 <<< ((I 8).toInt64 &&& 63)) ||| ((J 96) + (((x0 >>> (((I 2) * x3) &&& 31)) &&& (I 3)).toInt64))), .null, .int (x3 + I (-1))], [], f, m)) zh_X10_tell_31 rfl).trans ((zx_goto zh_X10_tell_34 rfl)))))))))))))))))
theorem ze_X10_tell_37 {d : Nat} {f : zF} {m : zM} {a0 a2 a3 : Value} {x1 : Int64} : zex zTb d zqX10_tell 37 [a0, .long x1, a2, a3] [] f m = some (.inl (some (.long x1)), f, m) := (zxl_go (x := (38, [a0, .long x1, a2, a3], [.long x1], f, m)) zh_X10_tell_37 rfl).trans ((zx_lret zh_X10_tell_38 rfl))
-- X10_size
theorem zh_X10_size_0 : zfe zqX10_size.i 0 = some (0, .iconst 0, 1, 0, 0, 0) := rfl
theorem zh_X10_size_1 : zfe zqX10_size.i 1 = some (1, .istore_n 1, 1, 0, 0, 0) := rfl
theorem zh_X10_size_2 : zfe zqX10_size.i 2 = some (2, .iload_n 0, 1, 0, 0, 0) := rfl
theorem zh_X10_size_3 : zfe zqX10_size.i 3 = some (3, .iconst 2, 1, 0, 0, 0) := rfl
theorem zh_X10_size_4 : zfe zqX10_size.i 4 = some (4, .iload_n 1, 1, 0, 0, 0) := rfl
theorem zh_X10_size_5 : zfe zqX10_size.i 5 = some (5, .imul, 1, 0, 0, 0) := rfl
theorem zh_X10_size_6 : zfe zqX10_size.i 6 = some (6, .ishr, 1, 0, 0, 0) := rfl
theorem zh_X10_size_7 : zfe zqX10_size.i 7 = some (7, .ifCond .le 9, 3, 0, 0, 0) := rfl
theorem zh_X10_size_10 : zfe zqX10_size.i 10 = some (10, .iinc 1 1, 3, 0, 0, 0) := rfl
theorem zh_X10_size_13 : zfe zqX10_size.i 13 = some (13, .goto (-11), 3, 0, 0, 0) := rfl
theorem zh_X10_size_16 : zfe zqX10_size.i 16 = some (16, .iload_n 1, 1, 0, 0, 0) := rfl
theorem zh_X10_size_17 : zfe zqX10_size.i 17 = some (17, .ireturn, 1, 0, 0, 0) := rfl
theorem ze_X10_size_0 {d : Nat} {f : zF} {m : zM} {a0 a1 : Value} : zex zTb d zqX10_size 0 [a0, a1] [] f m = zex zTb d zqX10_size 2 [(zclr a0), .int (I 0)] [] f m := (zx_iconst zh_X10_size_0).trans ((zxl_go (x := (2, [(zclr a0), .int (I 0)], [], f, m)) zh_X10_size_1 rfl))
theorem ze_X10_size_2 {d : Nat} {f : zF} {m : zM} {x0 x1 : Int32} : zex zTb d zqX10_size 2 [.int x0, .int x1] [] f m = if zc1 .le (x0 >>> (((I 2) * x1) &&& 31)) = true then zex zTb d zqX10_size 16 [.int x0, .int x1] [] f m else zex zTb d zqX10_size 10 [.int x0, .int x1] [] f m := (zxl_go (x := (3, [.int x0, .int x1], [.int x0], f, m)) zh_X10_size_2 rfl).trans ((zx_iconst zh_X10_size_3).trans ((zxl_go (x := (5, [.int x0, .int x1], [.int x1, .int (I 2), .int x0], f, m)) zh_X10_size_4 rfl).trans ((zxl_go (x := (6, [.int x0, .int x1], [.int ((I 2) * x1), .int x0], f, m)) zh_X10_size_5 rfl).trans ((zxl_go (x := (7, [.int x0, .int x1], [.int (x0 >>> (((I 2) * x1) &&& 31))], f, m)) zh_X10_size_6 rfl).trans ((zx_if (tgt := 16) zh_X10_size_7 rfl))))))
theorem ze_X10_size_10 {d : Nat} {f : zF} {m : zM} {a0 : Value} {x1 : Int32} : zex zTb d zqX10_size 10 [a0, .int x1] [] f m = zex zTb d zqX10_size 2 [(zclr a0), .int (x1 + I 1)] [] f m := (zxl_go (x := (13, [(zclr a0), .int (x1 + I 1)], [], f, m)) zh_X10_size_10 rfl).trans ((zx_goto zh_X10_size_13 rfl))
theorem ze_X10_size_16 {d : Nat} {f : zF} {m : zM} {a0 : Value} {x1 : Int32} : zex zTb d zqX10_size 16 [a0, .int x1] [] f m = some (.inl (some (.int x1)), f, m) := (zxl_go (x := (17, [a0, .int x1], [.int x1], f, m)) zh_X10_size_16 rfl).trans ((zx_iret zh_X10_size_17 (by first | rfl | decide)))
-- X10_part
theorem zh_X10_part_0 : zfe zqX10_part.i 0 = some (0, .iload_n 0, 1, 0, 0, 0) := rfl
theorem zh_X10_part_1 : zfe zqX10_part.i 1 = some (1, .iconst 2, 1, 0, 0, 0) := rfl
theorem zh_X10_part_2 : zfe zqX10_part.i 2 = some (2, .iload_n 0, 1, 0, 0, 0) := rfl
theorem zh_X10_part_3 : zfe zqX10_part.i 3 = some (3, .invokestatic 80, 3, 119, 1, 0) := rfl
theorem zh_X10_part_6 : zfe zqX10_part.i 6 = some (6, .iload_n 2, 1, 0, 0, 0) := rfl
theorem zh_X10_part_7 : zfe zqX10_part.i 7 = some (7, .isub, 1, 0, 0, 0) := rfl
theorem zh_X10_part_8 : zfe zqX10_part.i 8 = some (8, .imul, 1, 0, 0, 0) := rfl
theorem zh_X10_part_9 : zfe zqX10_part.i 9 = some (9, .ishr, 1, 0, 0, 0) := rfl
theorem zh_X10_part_10 : zfe zqX10_part.i 10 = some (10, .iconst 1, 1, 0, 0, 0) := rfl
theorem zh_X10_part_11 : zfe zqX10_part.i 11 = some (11, .iconst 2, 1, 0, 0, 0) := rfl
theorem zh_X10_part_12 : zfe zqX10_part.i 12 = some (12, .iload_n 2, 1, 0, 0, 0) := rfl
theorem zh_X10_part_13 : zfe zqX10_part.i 13 = some (13, .iload_n 1, 1, 0, 0, 0) := rfl
theorem zh_X10_part_14 : zfe zqX10_part.i 14 = some (14, .isub, 1, 0, 0, 0) := rfl
theorem zh_X10_part_15 : zfe zqX10_part.i 15 = some (15, .imul, 1, 0, 0, 0) := rfl
theorem zh_X10_part_16 : zfe zqX10_part.i 16 = some (16, .ishl, 1, 0, 0, 0) := rfl
theorem zh_X10_part_17 : zfe zqX10_part.i 17 = some (17, .iconst 1, 1, 0, 0, 0) := rfl
theorem zh_X10_part_18 : zfe zqX10_part.i 18 = some (18, .isub, 1, 0, 0, 0) := rfl
theorem zh_X10_part_19 : zfe zqX10_part.i 19 = some (19, .iand, 1, 0, 0, 0) := rfl
theorem zh_X10_part_20 : zfe zqX10_part.i 20 = some (20, .ireturn, 1, 0, 0, 0) := rfl
theorem ze_X10_part_0 {d : Nat} {f : zF} {m : zM} {x0 : Int32} {a1 a2 : Value} : zex zTb d zqX10_part 0 [.int x0, a1, a2] [] f m = zcal zTb (zrun zTb d 119 [.int x0] f m) d zqX10_part 3 6 [.int x0, a1, a2] [.int (I 2), .int x0] := (zxl_go (x := (1, [.int x0, a1, a2], [.int x0], f, m)) zh_X10_part_0 rfl).trans ((zx_iconst zh_X10_part_1).trans ((zxl_go (x := (3, [.int x0, a1, a2], [.int x0, .int (I 2), .int x0], f, m)) zh_X10_part_2 rfl).trans (((zx_static zh_X10_part_3 (Nat.le_of_ble_eq_true rfl) rfl rfl).trans (if_pos (Nat.le_of_ble_eq_true rfl))))))
theorem ze_X10_part_6 {d : Nat} {f : zF} {m : zM} {a0 : Value} {x1 x2 y0 y1 y2 : Int32} : zex zTb d zqX10_part 6 [a0, .int x1, .int x2] [.int y2, .int y1, .int y0] f m = some (.inl (some (.int ((y0 >>> ((y1 * (y2 - x2)) &&& 31)) &&& (((I 1) <<< (((I 2) * (x2 - x1)) &&& 31)) - (I 1))))), f, m) := (zxl_go (x := (7, [a0, .int x1, .int x2], [.int x2, .int y2, .int y1, .int y0], f, m)) zh_X10_part_6 rfl).trans ((zxl_go (x := (8, [a0, .int x1, .int x2], [.int (y2 - x2), .int y1, .int y0], f, m)) zh_X10_part_7 rfl).trans ((zxl_go (x := (9, [a0, .int x1, .int x2], [.int (y1 * (y2 - x2)), .int y0], f, m)) zh_X10_part_8 rfl).trans ((zxl_go (x := (10, [a0, .int x1, .int x2], [.int (y0 >>> ((y1 * (y2 - x2)) &&& 31))], f, m)) zh_X10_part_9 rfl).trans ((zx_iconst zh_X10_part_10).trans ((zx_iconst zh_X10_part_11).trans ((zxl_go (x := (13, [a0, .int x1, .int x2], [.int x2, .int (I 2), .int (I 1), .int (y0 >>> ((y1 * (y2 - x2)) &&& 31))], f, m)) zh_X10_part_12 rfl).trans ((zxl_go (x := (14, [a0, .int x1, .int x2], [.int x1, .int x2, .int (I 2), .int (I 1), .int (y0 >>> ((y1 * (y2 - x2)) &&& 31))], f, m)) zh_X10_part_13 rfl).trans ((zxl_go (x := (15, [a0, .int x1, .int x2], [.int (x2 - x1), .int (I 2), .int (I 1), .int (y0 >>> ((y1 * (y2 - x2)) &&& 31))], f, m)) zh_X10_part_14 rfl).trans ((zxl_go (x := (16, [a0, .int x1, .int x2], [.int ((I 2) * (x2 - x1)), .int (I 1), .int (y0 >>> ((y1 * (y2 - x2)) &&& 31))], f, m)) zh_X10_part_15 rfl).trans ((zxl_go (x := (17, [a0, .int x1, .int x2], [.int ((I 1) <<< (((I 2) * (x2 - x1)) &&& 31)), .int (y0 >>> ((y1 * (y2 - x2)) &&& 31))], f, m)) zh_X10_part_16 rfl).trans ((zx_iconst zh_X10_part_17).trans ((zxl_go (x := (19, [a0, .int x1, .int x2], [.int (((I 1) <<< (((I 2) * (x2 - x1)) &&& 31)) - (I 1)), .int (y0 >>> ((y1 * (y2 - x2)) &&& 31))], f, m)) zh_X10_part_18 rfl).trans ((zxl_go (x := (20, [a0, .int x1, .int x2], [.int ((y0 >>> ((y1 * (y2 - x2)) &&& 31)) &&& (((I 1) <<< (((I 2) * (x2 - x1)) &&& 31)) - (I 1)))], f, m)) zh_X10_part_19 rfl).trans ((zx_iret zh_X10_part_20 (by first | rfl | decide))))))))))))))))
-- X10_countPieces
theorem zh_X10_countPieces_0 : zfe zqX10_countPieces.i 0 = some (0, .iconst 0, 1, 0, 0, 0) := rfl
theorem zh_X10_countPieces_1 : zfe zqX10_countPieces.i 1 = some (1, .istore_n 1, 1, 0, 0, 0) := rfl
theorem zh_X10_countPieces_2 : zfe zqX10_countPieces.i 2 = some (2, .iload_n 1, 1, 0, 0, 0) := rfl
theorem zh_X10_countPieces_3 : zfe zqX10_countPieces.i 3 = some (3, .sipush 4096, 3, 0, 0, 0) := rfl
theorem zh_X10_countPieces_6 : zfe zqX10_countPieces.i 6 = some (6, .if_icmp .ge 16, 3, 0, 0, 0) := rfl
theorem zh_X10_countPieces_9 : zfe zqX10_countPieces.i 9 = some (9, .aload_n 0, 1, 0, 0, 0) := rfl
theorem zh_X10_countPieces_10 : zfe zqX10_countPieces.i 10 = some (10, .getfield 32, 3, 9, 10, 0) := rfl
theorem zh_X10_countPieces_13 : zfe zqX10_countPieces.i 13 = some (13, .iload_n 1, 1, 0, 0, 0) := rfl
theorem zh_X10_countPieces_14 : zfe zqX10_countPieces.i 14 = some (14, .iconst (-1), 1, 0, 0, 0) := rfl
theorem zh_X10_countPieces_15 : zfe zqX10_countPieces.i 15 = some (15, .iastore, 1, 0, 0, 0) := rfl
theorem zh_X10_countPieces_16 : zfe zqX10_countPieces.i 16 = some (16, .iinc 1 1, 3, 0, 0, 0) := rfl
theorem zh_X10_countPieces_19 : zfe zqX10_countPieces.i 19 = some (19, .goto (-17), 3, 0, 0, 0) := rfl
theorem zh_X10_countPieces_22 : zfe zqX10_countPieces.i 22 = some (22, .aload_n 0, 1, 0, 0, 0) := rfl
theorem zh_X10_countPieces_23 : zfe zqX10_countPieces.i 23 = some (23, .getfield 32, 3, 9, 10, 0) := rfl
theorem zh_X10_countPieces_26 : zfe zqX10_countPieces.i 26 = some (26, .iconst 0, 1, 0, 0, 0) := rfl
theorem zh_X10_countPieces_27 : zfe zqX10_countPieces.i 27 = some (27, .iconst 0, 1, 0, 0, 0) := rfl
theorem zh_X10_countPieces_28 : zfe zqX10_countPieces.i 28 = some (28, .iastore, 1, 0, 0, 0) := rfl
theorem zh_X10_countPieces_29 : zfe zqX10_countPieces.i 29 = some (29, .iconst 0, 1, 0, 0, 0) := rfl
theorem zh_X10_countPieces_30 : zfe zqX10_countPieces.i 30 = some (30, .istore_n 1, 1, 0, 0, 0) := rfl
theorem zh_X10_countPieces_31 : zfe zqX10_countPieces.i 31 = some (31, .iload_n 1, 1, 0, 0, 0) := rfl
theorem zh_X10_countPieces_32 : zfe zqX10_countPieces.i 32 = some (32, .aload_n 0, 1, 0, 0, 0) := rfl
theorem zh_X10_countPieces_33 : zfe zqX10_countPieces.i 33 = some (33, .getfield 71, 3, 9, 1, 0) := rfl
theorem zh_X10_countPieces_36 : zfe zqX10_countPieces.i 36 = some (36, .if_icmp .ge 67, 3, 0, 0, 0) := rfl
theorem zh_X10_countPieces_39 : zfe zqX10_countPieces.i 39 = some (39, .aload_n 0, 1, 0, 0, 0) := rfl
theorem zh_X10_countPieces_40 : zfe zqX10_countPieces.i 40 = some (40, .getfield 9, 3, 9, 2, 0) := rfl
theorem zh_X10_countPieces_43 : zfe zqX10_countPieces.i 43 = some (43, .iload_n 1, 1, 0, 0, 0) := rfl
theorem zh_X10_countPieces_44 : zfe zqX10_countPieces.i 44 = some (44, .iaload, 1, 0, 0, 0) := rfl
theorem zh_X10_countPieces_45 : zfe zqX10_countPieces.i 45 = some (45, .invokestatic 80, 3, 119, 1, 0) := rfl
theorem zh_X10_countPieces_48 : zfe zqX10_countPieces.i 48 = some (48, .istore_n 2, 1, 0, 0, 0) := rfl
theorem zh_X10_countPieces_49 : zfe zqX10_countPieces.i 49 = some (49, .iconst 0, 1, 0, 0, 0) := rfl
theorem zh_X10_countPieces_50 : zfe zqX10_countPieces.i 50 = some (50, .istore_n 3, 1, 0, 0, 0) := rfl
theorem zh_X10_countPieces_51 : zfe zqX10_countPieces.i 51 = some (51, .iload_n 3, 1, 0, 0, 0) := rfl
theorem zh_X10_countPieces_52 : zfe zqX10_countPieces.i 52 = some (52, .iload_n 2, 1, 0, 0, 0) := rfl
theorem zh_X10_countPieces_53 : zfe zqX10_countPieces.i 53 = some (53, .if_icmp .ge 44, 3, 0, 0, 0) := rfl
theorem zh_X10_countPieces_56 : zfe zqX10_countPieces.i 56 = some (56, .iload_n 3, 1, 0, 0, 0) := rfl
theorem zh_X10_countPieces_57 : zfe zqX10_countPieces.i 57 = some (57, .iconst 1, 1, 0, 0, 0) := rfl
theorem zh_X10_countPieces_58 : zfe zqX10_countPieces.i 58 = some (58, .iadd, 1, 0, 0, 0) := rfl
theorem zh_X10_countPieces_59 : zfe zqX10_countPieces.i 59 = some (59, .istore 4, 2, 0, 0, 0) := rfl
theorem zh_X10_countPieces_61 : zfe zqX10_countPieces.i 61 = some (61, .iload 4, 2, 0, 0, 0) := rfl
theorem zh_X10_countPieces_63 : zfe zqX10_countPieces.i 63 = some (63, .iload_n 2, 1, 0, 0, 0) := rfl
theorem zh_X10_countPieces_64 : zfe zqX10_countPieces.i 64 = some (64, .if_icmp .gt 27, 3, 0, 0, 0) := rfl
theorem zh_X10_countPieces_67 : zfe zqX10_countPieces.i 67 = some (67, .aload_n 0, 1, 0, 0, 0) := rfl
theorem zh_X10_countPieces_68 : zfe zqX10_countPieces.i 68 = some (68, .getfield 32, 3, 9, 10, 0) := rfl
theorem zh_X10_countPieces_71 : zfe zqX10_countPieces.i 71 = some (71, .aload_n 0, 1, 0, 0, 0) := rfl
theorem zh_X10_countPieces_72 : zfe zqX10_countPieces.i 72 = some (72, .getfield 9, 3, 9, 2, 0) := rfl
theorem zh_X10_countPieces_75 : zfe zqX10_countPieces.i 75 = some (75, .iload_n 1, 1, 0, 0, 0) := rfl
theorem zh_X10_countPieces_76 : zfe zqX10_countPieces.i 76 = some (76, .iaload, 1, 0, 0, 0) := rfl
theorem zh_X10_countPieces_77 : zfe zqX10_countPieces.i 77 = some (77, .iload_n 3, 1, 0, 0, 0) := rfl
theorem zh_X10_countPieces_78 : zfe zqX10_countPieces.i 78 = some (78, .iload 4, 2, 0, 0, 0) := rfl
theorem zh_X10_countPieces_80 : zfe zqX10_countPieces.i 80 = some (80, .invokestatic 86, 3, 120, 3, 0) := rfl
theorem zh_X10_countPieces_83 : zfe zqX10_countPieces.i 83 = some (83, .iconst 0, 1, 0, 0, 0) := rfl
theorem zh_X10_countPieces_84 : zfe zqX10_countPieces.i 84 = some (84, .iastore, 1, 0, 0, 0) := rfl
theorem zh_X10_countPieces_85 : zfe zqX10_countPieces.i 85 = some (85, .iinc 4 1, 3, 0, 0, 0) := rfl
theorem zh_X10_countPieces_88 : zfe zqX10_countPieces.i 88 = some (88, .goto (-27), 3, 0, 0, 0) := rfl
theorem zh_X10_countPieces_91 : zfe zqX10_countPieces.i 91 = some (91, .iinc 3 1, 3, 0, 0, 0) := rfl
theorem zh_X10_countPieces_94 : zfe zqX10_countPieces.i 94 = some (94, .goto (-43), 3, 0, 0, 0) := rfl
theorem zh_X10_countPieces_97 : zfe zqX10_countPieces.i 97 = some (97, .iinc 1 1, 3, 0, 0, 0) := rfl
theorem zh_X10_countPieces_100 : zfe zqX10_countPieces.i 100 = some (100, .goto (-69), 3, 0, 0, 0) := rfl
theorem zh_X10_countPieces_103 : zfe zqX10_countPieces.i 103 = some (103, .iconst 0, 1, 0, 0, 0) := rfl
theorem zh_X10_countPieces_104 : zfe zqX10_countPieces.i 104 = some (104, .istore_n 1, 1, 0, 0, 0) := rfl
theorem zh_X10_countPieces_105 : zfe zqX10_countPieces.i 105 = some (105, .iconst 0, 1, 0, 0, 0) := rfl
theorem zh_X10_countPieces_106 : zfe zqX10_countPieces.i 106 = some (106, .istore_n 2, 1, 0, 0, 0) := rfl
theorem zh_X10_countPieces_107 : zfe zqX10_countPieces.i 107 = some (107, .iload_n 2, 1, 0, 0, 0) := rfl
theorem zh_X10_countPieces_108 : zfe zqX10_countPieces.i 108 = some (108, .sipush 4096, 3, 0, 0, 0) := rfl
theorem zh_X10_countPieces_111 : zfe zqX10_countPieces.i 111 = some (111, .if_icmp .ge 27, 3, 0, 0, 0) := rfl
theorem zh_X10_countPieces_114 : zfe zqX10_countPieces.i 114 = some (114, .iload_n 1, 1, 0, 0, 0) := rfl
theorem zh_X10_countPieces_115 : zfe zqX10_countPieces.i 115 = some (115, .aload_n 0, 1, 0, 0, 0) := rfl
theorem zh_X10_countPieces_116 : zfe zqX10_countPieces.i 116 = some (116, .getfield 32, 3, 9, 10, 0) := rfl
theorem zh_X10_countPieces_119 : zfe zqX10_countPieces.i 119 = some (119, .iload_n 2, 1, 0, 0, 0) := rfl
theorem zh_X10_countPieces_120 : zfe zqX10_countPieces.i 120 = some (120, .iaload, 1, 0, 0, 0) := rfl
theorem zh_X10_countPieces_121 : zfe zqX10_countPieces.i 121 = some (121, .iconst (-1), 1, 0, 0, 0) := rfl
theorem zh_X10_countPieces_122 : zfe zqX10_countPieces.i 122 = some (122, .if_icmp .ne 7, 3, 0, 0, 0) := rfl
theorem zh_X10_countPieces_125 : zfe zqX10_countPieces.i 125 = some (125, .iconst 0, 1, 0, 0, 0) := rfl
theorem zh_X10_countPieces_126 : zfe zqX10_countPieces.i 126 = some (126, .goto 4, 3, 0, 0, 0) := rfl
theorem zh_X10_countPieces_129 : zfe zqX10_countPieces.i 129 = some (129, .iconst 1, 1, 0, 0, 0) := rfl
theorem zh_X10_countPieces_130 : zfe zqX10_countPieces.i 130 = some (130, .iadd, 1, 0, 0, 0) := rfl
theorem zh_X10_countPieces_131 : zfe zqX10_countPieces.i 131 = some (131, .istore_n 1, 1, 0, 0, 0) := rfl
theorem zh_X10_countPieces_132 : zfe zqX10_countPieces.i 132 = some (132, .iinc 2 1, 3, 0, 0, 0) := rfl
theorem zh_X10_countPieces_135 : zfe zqX10_countPieces.i 135 = some (135, .goto (-28), 3, 0, 0, 0) := rfl
theorem zh_X10_countPieces_138 : zfe zqX10_countPieces.i 138 = some (138, .iload_n 1, 1, 0, 0, 0) := rfl
theorem zh_X10_countPieces_139 : zfe zqX10_countPieces.i 139 = some (139, .ireturn, 1, 0, 0, 0) := rfl
theorem ze_X10_countPieces_0 {d : Nat} {f : zF} {m : zM} {a0 a1 a2 a3 a4 : Value} : zex zTb d zqX10_countPieces 0 [a0, a1, a2, a3, a4] [] f m = zex zTb d zqX10_countPieces 2 [(zclr a0), .int (I 0), a2, a3, a4] [] f m := (zx_iconst zh_X10_countPieces_0).trans ((zxl_go (x := (2, [(zclr a0), .int (I 0), a2, a3, a4], [], f, m)) zh_X10_countPieces_1 rfl))
theorem ze_X10_countPieces_2 {d : Nat} {f : zF} {m : zM} {a0 a2 a3 a4 : Value} {x1 : Int32} : zex zTb d zqX10_countPieces 2 [a0, .int x1, a2, a3, a4] [] f m = if zc2 .ge x1 (I 4096) = true then zex zTb d zqX10_countPieces 22 [a0, .int x1, a2, a3, a4] [] f m else zex zTb d zqX10_countPieces 9 [a0, .int x1, a2, a3, a4] [] f m := (zxl_go (x := (3, [a0, .int x1, a2, a3, a4], [.int x1], f, m)) zh_X10_countPieces_2 rfl).trans ((zx_sipush zh_X10_countPieces_3 (by decide)).trans ((zx_icmp (tgt := 22) zh_X10_countPieces_6 rfl)))
theorem ze_X10_countPieces_9 {d : Nat} {f : zF} {m : zM} {x0 : Nat} {a1 a2 a3 a4 : Value} : zex zTb d zqX10_countPieces 9 [.ref x0, a1, a2, a3, a4] [] f m = if zco (f x0) 9 10 = true then zex zTb d zqX10_countPieces 13 [.ref x0, a1, a2, a3, a4] [zcf (f x0) 10] f m else none := (zxl_go (x := (10, [.ref x0, a1, a2, a3, a4], [.ref x0], f, m)) zh_X10_countPieces_9 rfl).trans ((zx_getfield zh_X10_countPieces_10))
theorem ze_X10_countPieces_13 {d : Nat} {f : zF} {m : zM} {a0 a2 a3 a4 : Value} {x1 : Int32} {y0 : Nat} : zex zTb d zqX10_countPieces 13 [a0, .int x1, a2, a3, a4] [.ref y0] f m = if zri (f y0) 0 x1 = true then zex zTb d zqX10_countPieces 16 [a0, .int x1, a2, a3, a4] [] (zup f y0 (zwi (f y0) 0 x1.toNatClampNeg (I (-1)))) m else none := (zxl_go (x := (14, [a0, .int x1, a2, a3, a4], [.int x1, .ref y0], f, m)) zh_X10_countPieces_13 rfl).trans ((zx_iconst zh_X10_countPieces_14).trans ((zx_iastore zh_X10_countPieces_15)))
theorem ze_X10_countPieces_16 {d : Nat} {f : zF} {m : zM} {a0 a2 a3 a4 : Value} {x1 : Int32} : zex zTb d zqX10_countPieces 16 [a0, .int x1, a2, a3, a4] [] f m = zex zTb d zqX10_countPieces 2 [(zclr a0), .int (x1 + I 1), a2, a3, a4] [] f m := (zxl_go (x := (19, [(zclr a0), .int (x1 + I 1), a2, a3, a4], [], f, m)) zh_X10_countPieces_16 rfl).trans ((zx_goto zh_X10_countPieces_19 rfl))
theorem ze_X10_countPieces_22 {d : Nat} {f : zF} {m : zM} {x0 : Nat} {a1 a2 a3 a4 : Value} : zex zTb d zqX10_countPieces 22 [.ref x0, a1, a2, a3, a4] [] f m = if zco (f x0) 9 10 = true then zex zTb d zqX10_countPieces 26 [.ref x0, a1, a2, a3, a4] [zcf (f x0) 10] f m else none := (zxl_go (x := (23, [.ref x0, a1, a2, a3, a4], [.ref x0], f, m)) zh_X10_countPieces_22 rfl).trans ((zx_getfield zh_X10_countPieces_23))
theorem ze_X10_countPieces_26 {d : Nat} {f : zF} {m : zM} {a0 a1 a2 a3 a4 : Value} {y0 : Nat} : zex zTb d zqX10_countPieces 26 [a0, a1, a2, a3, a4] [.ref y0] f m = if zri (f y0) 0 (I 0) = true then zex zTb d zqX10_countPieces 29 [a0, a1, a2, a3, a4] [] (zup f y0 (zwi (f y0) 0 (I 0).toNatClampNeg (I 0))) m else none := (zx_iconst zh_X10_countPieces_26).trans ((zx_iconst zh_X10_countPieces_27).trans ((zx_iastore zh_X10_countPieces_28)))
theorem ze_X10_countPieces_29 {d : Nat} {f : zF} {m : zM} {a0 a1 a2 a3 a4 : Value} : zex zTb d zqX10_countPieces 29 [a0, a1, a2, a3, a4] [] f m = zex zTb d zqX10_countPieces 31 [(zclr a0), .int (I 0), a2, a3, a4] [] f m := (zx_iconst zh_X10_countPieces_29).trans ((zxl_go (x := (31, [(zclr a0), .int (I 0), a2, a3, a4], [], f, m)) zh_X10_countPieces_30 rfl))
theorem ze_X10_countPieces_31 {d : Nat} {f : zF} {m : zM} {x0 : Nat} {x1 : Int32} {a2 a3 a4 : Value} : zex zTb d zqX10_countPieces 31 [.ref x0, .int x1, a2, a3, a4] [] f m = if zco (f x0) 9 1 = true then zex zTb d zqX10_countPieces 36 [.ref x0, .int x1, a2, a3, a4] [zcf (f x0) 1, .int x1] f m else none := (zxl_go (x := (32, [.ref x0, .int x1, a2, a3, a4], [.int x1], f, m)) zh_X10_countPieces_31 rfl).trans ((zxl_go (x := (33, [.ref x0, .int x1, a2, a3, a4], [.ref x0, .int x1], f, m)) zh_X10_countPieces_32 rfl).trans ((zx_getfield zh_X10_countPieces_33)))
theorem ze_X10_countPieces_36 {d : Nat} {f : zF} {m : zM} {a0 a1 a2 a3 a4 : Value} {y0 y1 : Int32} : zex zTb d zqX10_countPieces 36 [a0, a1, a2, a3, a4] [.int y1, .int y0] f m = if zc2 .ge y0 y1 = true then zex zTb d zqX10_countPieces 103 [a0, a1, a2, a3, a4] [] f m else zex zTb d zqX10_countPieces 39 [a0, a1, a2, a3, a4] [] f m := (zx_icmp (tgt := 103) zh_X10_countPieces_36 rfl)
theorem ze_X10_countPieces_39 {d : Nat} {f : zF} {m : zM} {x0 : Nat} {a1 a2 a3 a4 : Value} : zex zTb d zqX10_countPieces 39 [.ref x0, a1, a2, a3, a4] [] f m = if zco (f x0) 9 2 = true then zex zTb d zqX10_countPieces 43 [.ref x0, a1, a2, a3, a4] [zcf (f x0) 2] f m else none := (zxl_go (x := (40, [.ref x0, a1, a2, a3, a4], [.ref x0], f, m)) zh_X10_countPieces_39 rfl).trans ((zx_getfield zh_X10_countPieces_40))
theorem ze_X10_countPieces_43 {d : Nat} {f : zF} {m : zM} {a0 a2 a3 a4 : Value} {x1 : Int32} {y0 : Nat} : zex zTb d zqX10_countPieces 43 [a0, .int x1, a2, a3, a4] [.ref y0] f m = if zr8 (f y0) x1 = true then zex zTb d zqX10_countPieces 45 [a0, .int x1, a2, a3, a4] [.int (zgi (f y0) x1.toNatClampNeg)] f m else none := (zxl_go (x := (44, [a0, .int x1, a2, a3, a4], [.int x1, .ref y0], f, m)) zh_X10_countPieces_43 rfl).trans ((zx_iaload zh_X10_countPieces_44))
theorem ze_X10_countPieces_45 {d : Nat} {f : zF} {m : zM} {a0 a1 a2 a3 a4 : Value} {y0 : Int32} : zex zTb d zqX10_countPieces 45 [a0, a1, a2, a3, a4] [.int y0] f m = zcal zTb (zrun zTb d 119 [.int y0] f m) d zqX10_countPieces 45 48 [a0, a1, a2, a3, a4] [] := ((zx_static zh_X10_countPieces_45 (Nat.le_of_ble_eq_true rfl) rfl rfl).trans (if_pos (Nat.le_of_ble_eq_true rfl)))
theorem ze_X10_countPieces_48 {d : Nat} {f : zF} {m : zM} {a0 a1 a2 a3 a4 : Value} {y0 : Int32} : zex zTb d zqX10_countPieces 48 [a0, a1, a2, a3, a4] [.int y0] f m = zex zTb d zqX10_countPieces 51 [a0, (zclr a1), .int y0, .int (I 0), a4] [] f m := (zxl_go (x := (49, [a0, (zclr a1), .int y0, a3, a4], [], f, m)) zh_X10_countPieces_48 rfl).trans ((zx_iconst zh_X10_countPieces_49).trans ((zxl_go (x := (51, [a0, (zclr a1), .int y0, .int (I 0), a4], [], f, m)) zh_X10_countPieces_50 rfl)))
theorem ze_X10_countPieces_51 {d : Nat} {f : zF} {m : zM} {a0 a1 a4 : Value} {x2 x3 : Int32} : zex zTb d zqX10_countPieces 51 [a0, a1, .int x2, .int x3, a4] [] f m = if zc2 .ge x3 x2 = true then zex zTb d zqX10_countPieces 97 [a0, a1, .int x2, .int x3, a4] [] f m else zex zTb d zqX10_countPieces 56 [a0, a1, .int x2, .int x3, a4] [] f m := (zxl_go (x := (52, [a0, a1, .int x2, .int x3, a4], [.int x3], f, m)) zh_X10_countPieces_51 rfl).trans ((zxl_go (x := (53, [a0, a1, .int x2, .int x3, a4], [.int x2, .int x3], f, m)) zh_X10_countPieces_52 rfl).trans ((zx_icmp (tgt := 97) zh_X10_countPieces_53 rfl)))
theorem ze_X10_countPieces_56 {d : Nat} {f : zF} {m : zM} {a0 a1 a2 a4 : Value} {x3 : Int32} : zex zTb d zqX10_countPieces 56 [a0, a1, a2, .int x3, a4] [] f m = zex zTb d zqX10_countPieces 61 [a0, a1, a2, .int x3, .int (x3 + (I 1))] [] f m := (zxl_go (x := (57, [a0, a1, a2, .int x3, a4], [.int x3], f, m)) zh_X10_countPieces_56 rfl).trans ((zx_iconst zh_X10_countPieces_57).trans ((zxl_go (x := (59, [a0, a1, a2, .int x3, a4], [.int (x3 + (I 1))], f, m)) zh_X10_countPieces_58 rfl).trans ((zxl_go (x := (61, [a0, a1, a2, .int x3, .int (x3 + (I 1))], [], f, m)) zh_X10_countPieces_59 rfl))))
theorem ze_X10_countPieces_61 {d : Nat} {f : zF} {m : zM} {a0 a1 a3 : Value} {x2 x4 : Int32} : zex zTb d zqX10_countPieces 61 [a0, a1, .int x2, a3, .int x4] [] f m = if zc2 .gt x4 x2 = true then zex zTb d zqX10_countPieces 91 [a0, a1, .int x2, a3, .int x4] [] f m else zex zTb d zqX10_countPieces 67 [a0, a1, .int x2, a3, .int x4] [] f m := (zxl_go (x := (63, [a0, a1, .int x2, a3, .int x4], [.int x4], f, m)) zh_X10_countPieces_61 rfl).trans ((zxl_go (x := (64, [a0, a1, .int x2, a3, .int x4], [.int x2, .int x4], f, m)) zh_X10_countPieces_63 rfl).trans ((zx_icmp (tgt := 91) zh_X10_countPieces_64 rfl)))
theorem ze_X10_countPieces_67 {d : Nat} {f : zF} {m : zM} {x0 : Nat} {a1 a2 a3 a4 : Value} : zex zTb d zqX10_countPieces 67 [.ref x0, a1, a2, a3, a4] [] f m = if zco (f x0) 9 10 = true then zex zTb d zqX10_countPieces 71 [.ref x0, a1, a2, a3, a4] [zcf (f x0) 10] f m else none := (zxl_go (x := (68, [.ref x0, a1, a2, a3, a4], [.ref x0], f, m)) zh_X10_countPieces_67 rfl).trans ((zx_getfield zh_X10_countPieces_68))
theorem ze_X10_countPieces_71 {d : Nat} {f : zF} {m : zM} {x0 y0 : Nat} {a1 a2 a3 a4 : Value} : zex zTb d zqX10_countPieces 71 [.ref x0, a1, a2, a3, a4] [.ref y0] f m = if zco (f x0) 9 2 = true then zex zTb d zqX10_countPieces 75 [.ref x0, a1, a2, a3, a4] [zcf (f x0) 2, .ref y0] f m else none := (zxl_go (x := (72, [.ref x0, a1, a2, a3, a4], [.ref x0, .ref y0], f, m)) zh_X10_countPieces_71 rfl).trans ((zx_getfield zh_X10_countPieces_72))
theorem ze_X10_countPieces_75 {d : Nat} {f : zF} {m : zM} {a0 a2 a3 a4 : Value} {x1 : Int32} {y0 y1 : Nat} : zex zTb d zqX10_countPieces 75 [a0, .int x1, a2, a3, a4] [.ref y1, .ref y0] f m = if zr8 (f y1) x1 = true then zex zTb d zqX10_countPieces 77 [a0, .int x1, a2, a3, a4] [.int (zgi (f y1) x1.toNatClampNeg), .ref y0] f m else none := (zxl_go (x := (76, [a0, .int x1, a2, a3, a4], [.int x1, .ref y1, .ref y0], f, m)) zh_X10_countPieces_75 rfl).trans ((zx_iaload zh_X10_countPieces_76))
theorem ze_X10_countPieces_77 {d : Nat} {f : zF} {m : zM} {a0 a1 a2 : Value} {x3 x4 y1 : Int32} {y0 : Nat} : zex zTb d zqX10_countPieces 77 [a0, a1, a2, .int x3, .int x4] [.int y1, .ref y0] f m = zcal zTb (zrun zTb d 120 [.int y1, .int x3, .int x4] f m) d zqX10_countPieces 80 83 [a0, a1, a2, .int x3, .int x4] [.ref y0] := (zxl_go (x := (78, [a0, a1, a2, .int x3, .int x4], [.int x3, .int y1, .ref y0], f, m)) zh_X10_countPieces_77 rfl).trans ((zxl_go (x := (80, [a0, a1, a2, .int x3, .int x4], [.int x4, .int x3, .int y1, .ref y0], f, m)) zh_X10_countPieces_78 rfl).trans (((zx_static zh_X10_countPieces_80 (Nat.le_of_ble_eq_true rfl) rfl rfl).trans (if_pos (Nat.le_of_ble_eq_true rfl)))))
theorem ze_X10_countPieces_83 {d : Nat} {f : zF} {m : zM} {a0 a1 a2 a3 a4 : Value} {y0 : Nat} {y1 : Int32} : zex zTb d zqX10_countPieces 83 [a0, a1, a2, a3, a4] [.int y1, .ref y0] f m = if zri (f y0) 0 y1 = true then zex zTb d zqX10_countPieces 85 [a0, a1, a2, a3, a4] [] (zup f y0 (zwi (f y0) 0 y1.toNatClampNeg (I 0))) m else none := (zx_iconst zh_X10_countPieces_83).trans ((zx_iastore zh_X10_countPieces_84))
theorem ze_X10_countPieces_85 {d : Nat} {f : zF} {m : zM} {a0 a1 a2 a3 : Value} {x4 : Int32} : zex zTb d zqX10_countPieces 85 [a0, a1, a2, a3, .int x4] [] f m = zex zTb d zqX10_countPieces 61 [a0, a1, a2, (zclr a3), .int (x4 + I 1)] [] f m := (zxl_go (x := (88, [a0, a1, a2, (zclr a3), .int (x4 + I 1)], [], f, m)) zh_X10_countPieces_85 rfl).trans ((zx_goto zh_X10_countPieces_88 rfl))
theorem ze_X10_countPieces_91 {d : Nat} {f : zF} {m : zM} {a0 a1 a2 a4 : Value} {x3 : Int32} : zex zTb d zqX10_countPieces 91 [a0, a1, a2, .int x3, a4] [] f m = zex zTb d zqX10_countPieces 51 [a0, a1, (zclr a2), .int (x3 + I 1), a4] [] f m := (zxl_go (x := (94, [a0, a1, (zclr a2), .int (x3 + I 1), a4], [], f, m)) zh_X10_countPieces_91 rfl).trans ((zx_goto zh_X10_countPieces_94 rfl))
theorem ze_X10_countPieces_97 {d : Nat} {f : zF} {m : zM} {a0 a2 a3 a4 : Value} {x1 : Int32} : zex zTb d zqX10_countPieces 97 [a0, .int x1, a2, a3, a4] [] f m = zex zTb d zqX10_countPieces 31 [(zclr a0), .int (x1 + I 1), a2, a3, a4] [] f m := (zxl_go (x := (100, [(zclr a0), .int (x1 + I 1), a2, a3, a4], [], f, m)) zh_X10_countPieces_97 rfl).trans ((zx_goto zh_X10_countPieces_100 rfl))
theorem ze_X10_countPieces_103 {d : Nat} {f : zF} {m : zM} {a0 a1 a2 a3 a4 : Value} : zex zTb d zqX10_countPieces 103 [a0, a1, a2, a3, a4] [] f m = zex zTb d zqX10_countPieces 107 [(zclr a0), .int (I 0), .int (I 0), a3, a4] [] f m := (zx_iconst zh_X10_countPieces_103).trans ((zxl_go (x := (105, [(zclr a0), .int (I 0), a2, a3, a4], [], f, m)) zh_X10_countPieces_104 rfl).trans ((zx_iconst zh_X10_countPieces_105).trans ((zxl_go (x := (107, [(zclr a0), .int (I 0), .int (I 0), a3, a4], [], f, m)) zh_X10_countPieces_106 rfl))))
theorem ze_X10_countPieces_107 {d : Nat} {f : zF} {m : zM} {a0 a1 a3 a4 : Value} {x2 : Int32} : zex zTb d zqX10_countPieces 107 [a0, a1, .int x2, a3, a4] [] f m = if zc2 .ge x2 (I 4096) = true then zex zTb d zqX10_countPieces 138 [a0, a1, .int x2, a3, a4] [] f m else zex zTb d zqX10_countPieces 114 [a0, a1, .int x2, a3, a4] [] f m := (zxl_go (x := (108, [a0, a1, .int x2, a3, a4], [.int x2], f, m)) zh_X10_countPieces_107 rfl).trans ((zx_sipush zh_X10_countPieces_108 (by decide)).trans ((zx_icmp (tgt := 138) zh_X10_countPieces_111 rfl)))
theorem ze_X10_countPieces_114 {d : Nat} {f : zF} {m : zM} {x0 : Nat} {x1 : Int32} {a2 a3 a4 : Value} : zex zTb d zqX10_countPieces 114 [.ref x0, .int x1, a2, a3, a4] [] f m = if zco (f x0) 9 10 = true then zex zTb d zqX10_countPieces 119 [.ref x0, .int x1, a2, a3, a4] [zcf (f x0) 10, .int x1] f m else none := (zxl_go (x := (115, [.ref x0, .int x1, a2, a3, a4], [.int x1], f, m)) zh_X10_countPieces_114 rfl).trans ((zxl_go (x := (116, [.ref x0, .int x1, a2, a3, a4], [.ref x0, .int x1], f, m)) zh_X10_countPieces_115 rfl).trans ((zx_getfield zh_X10_countPieces_116)))
theorem ze_X10_countPieces_119 {d : Nat} {f : zF} {m : zM} {a0 a1 a3 a4 : Value} {x2 y0 : Int32} {y1 : Nat} : zex zTb d zqX10_countPieces 119 [a0, a1, .int x2, a3, a4] [.ref y1, .int y0] f m = if zr8 (f y1) x2 = true then zex zTb d zqX10_countPieces 121 [a0, a1, .int x2, a3, a4] [.int (zgi (f y1) x2.toNatClampNeg), .int y0] f m else none := (zxl_go (x := (120, [a0, a1, .int x2, a3, a4], [.int x2, .ref y1, .int y0], f, m)) zh_X10_countPieces_119 rfl).trans ((zx_iaload zh_X10_countPieces_120))
theorem ze_X10_countPieces_121 {d : Nat} {f : zF} {m : zM} {a0 a1 a2 a3 a4 : Value} {y0 y1 : Int32} : zex zTb d zqX10_countPieces 121 [a0, a1, a2, a3, a4] [.int y1, .int y0] f m = if zc2 .ne y1 (I (-1)) = true then zex zTb d zqX10_countPieces 129 [a0, a1, a2, a3, a4] [.int y0] f m else zex zTb d zqX10_countPieces 125 [a0, a1, a2, a3, a4] [.int y0] f m := (zx_iconst zh_X10_countPieces_121).trans ((zx_icmp (tgt := 129) zh_X10_countPieces_122 rfl))
theorem ze_X10_countPieces_125 {d : Nat} {f : zF} {m : zM} {a0 a1 a3 a4 : Value} {x2 y0 : Int32} : zex zTb d zqX10_countPieces 125 [a0, a1, .int x2, a3, a4] [.int y0] f m = zex zTb d zqX10_countPieces 107 [(zclr a0), .int (y0 + (I 0)), .int (x2 + I 1), a3, a4] [] f m := (zx_iconst zh_X10_countPieces_125).trans ((zx_goto zh_X10_countPieces_126 rfl).trans ((zxl_go (x := (131, [a0, a1, .int x2, a3, a4], [.int (y0 + (I 0))], f, m)) zh_X10_countPieces_130 rfl).trans ((zxl_go (x := (132, [(zclr a0), .int (y0 + (I 0)), .int x2, a3, a4], [], f, m)) zh_X10_countPieces_131 rfl).trans ((zxl_go (x := (135, [(zclr a0), .int (y0 + (I 0)), .int (x2 + I 1), a3, a4], [], f, m)) zh_X10_countPieces_132 rfl).trans ((zx_goto zh_X10_countPieces_135 rfl))))))
theorem ze_X10_countPieces_129 {d : Nat} {f : zF} {m : zM} {a0 a1 a3 a4 : Value} {x2 y0 : Int32} : zex zTb d zqX10_countPieces 129 [a0, a1, .int x2, a3, a4] [.int y0] f m = zex zTb d zqX10_countPieces 107 [(zclr a0), .int (y0 + (I 1)), .int (x2 + I 1), a3, a4] [] f m := (zx_iconst zh_X10_countPieces_129).trans ((zxl_go (x := (131, [a0, a1, .int x2, a3, a4], [.int (y0 + (I 1))], f, m)) zh_X10_countPieces_130 rfl).trans ((zxl_go (x := (132, [(zclr a0), .int (y0 + (I 1)), .int x2, a3, a4], [], f, m)) zh_X10_countPieces_131 rfl).trans ((zxl_go (x := (135, [(zclr a0), .int (y0 + (I 1)), .int (x2 + I 1), a3, a4], [], f, m)) zh_X10_countPieces_132 rfl).trans ((zx_goto zh_X10_countPieces_135 rfl)))))
theorem ze_X10_countPieces_138 {d : Nat} {f : zF} {m : zM} {a0 a2 a3 a4 : Value} {x1 : Int32} : zex zTb d zqX10_countPieces 138 [a0, .int x1, a2, a3, a4] [] f m = some (.inl (some (.int x1)), f, m) := (zxl_go (x := (139, [a0, .int x1, a2, a3, a4], [.int x1], f, m)) zh_X10_countPieces_138 rfl).trans ((zx_iret zh_X10_countPieces_139 (by first | rfl | decide)))
-- X10_findPieces
theorem zh_X10_findPieces_0 : zfe zqX10_findPieces.i 0 = some (0, .aload_n 0, 1, 0, 0, 0) := rfl
theorem zh_X10_findPieces_1 : zfe zqX10_findPieces.i 1 = some (1, .invokevirtual 90, 3, 121, 1, 9) := rfl
theorem zh_X10_findPieces_4 : zfe zqX10_findPieces.i 4 = some (4, .pop, 1, 0, 0, 0) := rfl
theorem zh_X10_findPieces_5 : zfe zqX10_findPieces.i 5 = some (5, .aload_n 0, 1, 0, 0, 0) := rfl
theorem zh_X10_findPieces_6 : zfe zqX10_findPieces.i 6 = some (6, .iconst 0, 1, 0, 0, 0) := rfl
theorem zh_X10_findPieces_7 : zfe zqX10_findPieces.i 7 = some (7, .putfield 94, 3, 9, 5, 0) := rfl
theorem zh_X10_findPieces_10 : zfe zqX10_findPieces.i 10 = some (10, .iconst 0, 1, 0, 0, 0) := rfl
theorem zh_X10_findPieces_11 : zfe zqX10_findPieces.i 11 = some (11, .istore_n 1, 1, 0, 0, 0) := rfl
theorem zh_X10_findPieces_12 : zfe zqX10_findPieces.i 12 = some (12, .iload_n 1, 1, 0, 0, 0) := rfl
theorem zh_X10_findPieces_13 : zfe zqX10_findPieces.i 13 = some (13, .sipush 4096, 3, 0, 0, 0) := rfl
theorem zh_X10_findPieces_16 : zfe zqX10_findPieces.i 16 = some (16, .if_icmp .ge 65, 3, 0, 0, 0) := rfl
theorem zh_X10_findPieces_19 : zfe zqX10_findPieces.i 19 = some (19, .aload_n 0, 1, 0, 0, 0) := rfl
theorem zh_X10_findPieces_20 : zfe zqX10_findPieces.i 20 = some (20, .getfield 32, 3, 9, 10, 0) := rfl
theorem zh_X10_findPieces_23 : zfe zqX10_findPieces.i 23 = some (23, .iload_n 1, 1, 0, 0, 0) := rfl
theorem zh_X10_findPieces_24 : zfe zqX10_findPieces.i 24 = some (24, .iaload, 1, 0, 0, 0) := rfl
theorem zh_X10_findPieces_25 : zfe zqX10_findPieces.i 25 = some (25, .iconst (-1), 1, 0, 0, 0) := rfl
theorem zh_X10_findPieces_26 : zfe zqX10_findPieces.i 26 = some (26, .if_icmp .ne 6, 3, 0, 0, 0) := rfl
theorem zh_X10_findPieces_29 : zfe zqX10_findPieces.i 29 = some (29, .goto 46, 3, 0, 0, 0) := rfl
theorem zh_X10_findPieces_32 : zfe zqX10_findPieces.i 32 = some (32, .aload_n 0, 1, 0, 0, 0) := rfl
theorem zh_X10_findPieces_33 : zfe zqX10_findPieces.i 33 = some (33, .getfield 32, 3, 9, 10, 0) := rfl
theorem zh_X10_findPieces_36 : zfe zqX10_findPieces.i 36 = some (36, .iload_n 1, 1, 0, 0, 0) := rfl
theorem zh_X10_findPieces_37 : zfe zqX10_findPieces.i 37 = some (37, .aload_n 0, 1, 0, 0, 0) := rfl
theorem zh_X10_findPieces_38 : zfe zqX10_findPieces.i 38 = some (38, .getfield 94, 3, 9, 5, 0) := rfl
theorem zh_X10_findPieces_41 : zfe zqX10_findPieces.i 41 = some (41, .iastore, 1, 0, 0, 0) := rfl
theorem zh_X10_findPieces_42 : zfe zqX10_findPieces.i 42 = some (42, .aload_n 0, 1, 0, 0, 0) := rfl
theorem zh_X10_findPieces_43 : zfe zqX10_findPieces.i 43 = some (43, .getfield 20, 3, 9, 6, 0) := rfl
theorem zh_X10_findPieces_46 : zfe zqX10_findPieces.i 46 = some (46, .aload_n 0, 1, 0, 0, 0) := rfl
theorem zh_X10_findPieces_47 : zfe zqX10_findPieces.i 47 = some (47, .getfield 94, 3, 9, 5, 0) := rfl
theorem zh_X10_findPieces_50 : zfe zqX10_findPieces.i 50 = some (50, .iload_n 1, 1, 0, 0, 0) := rfl
theorem zh_X10_findPieces_51 : zfe zqX10_findPieces.i 51 = some (51, .iastore, 1, 0, 0, 0) := rfl
theorem zh_X10_findPieces_52 : zfe zqX10_findPieces.i 52 = some (52, .aload_n 0, 1, 0, 0, 0) := rfl
theorem zh_X10_findPieces_53 : zfe zqX10_findPieces.i 53 = some (53, .getfield 23, 3, 9, 7, 0) := rfl
theorem zh_X10_findPieces_56 : zfe zqX10_findPieces.i 56 = some (56, .aload_n 0, 1, 0, 0, 0) := rfl
theorem zh_X10_findPieces_57 : zfe zqX10_findPieces.i 57 = some (57, .getfield 94, 3, 9, 5, 0) := rfl
theorem zh_X10_findPieces_60 : zfe zqX10_findPieces.i 60 = some (60, .iload_n 1, 1, 0, 0, 0) := rfl
theorem zh_X10_findPieces_61 : zfe zqX10_findPieces.i 61 = some (61, .invokestatic 80, 3, 119, 1, 0) := rfl
theorem zh_X10_findPieces_64 : zfe zqX10_findPieces.i 64 = some (64, .iastore, 1, 0, 0, 0) := rfl
theorem zh_X10_findPieces_65 : zfe zqX10_findPieces.i 65 = some (65, .aload_n 0, 1, 0, 0, 0) := rfl
theorem zh_X10_findPieces_66 : zfe zqX10_findPieces.i 66 = some (66, .dup, 1, 0, 0, 0) := rfl
theorem zh_X10_findPieces_67 : zfe zqX10_findPieces.i 67 = some (67, .getfield 94, 3, 9, 5, 0) := rfl
theorem zh_X10_findPieces_70 : zfe zqX10_findPieces.i 70 = some (70, .iconst 1, 1, 0, 0, 0) := rfl
theorem zh_X10_findPieces_71 : zfe zqX10_findPieces.i 71 = some (71, .iadd, 1, 0, 0, 0) := rfl
theorem zh_X10_findPieces_72 : zfe zqX10_findPieces.i 72 = some (72, .putfield 94, 3, 9, 5, 0) := rfl
theorem zh_X10_findPieces_75 : zfe zqX10_findPieces.i 75 = some (75, .iinc 1 1, 3, 0, 0, 0) := rfl
theorem zh_X10_findPieces_78 : zfe zqX10_findPieces.i 78 = some (78, .goto (-66), 3, 0, 0, 0) := rfl
theorem zh_X10_findPieces_81 : zfe zqX10_findPieces.i 81 = some (81, .iconst 0, 1, 0, 0, 0) := rfl
theorem zh_X10_findPieces_82 : zfe zqX10_findPieces.i 82 = some (82, .istore_n 1, 1, 0, 0, 0) := rfl
theorem zh_X10_findPieces_83 : zfe zqX10_findPieces.i 83 = some (83, .iload_n 1, 1, 0, 0, 0) := rfl
theorem zh_X10_findPieces_84 : zfe zqX10_findPieces.i 84 = some (84, .aload_n 0, 1, 0, 0, 0) := rfl
theorem zh_X10_findPieces_85 : zfe zqX10_findPieces.i 85 = some (85, .getfield 94, 3, 9, 5, 0) := rfl
theorem zh_X10_findPieces_88 : zfe zqX10_findPieces.i 88 = some (88, .if_icmp .ge 86, 3, 0, 0, 0) := rfl
theorem zh_X10_findPieces_91 : zfe zqX10_findPieces.i 91 = some (91, .iconst 0, 1, 0, 0, 0) := rfl
theorem zh_X10_findPieces_92 : zfe zqX10_findPieces.i 92 = some (92, .istore_n 2, 1, 0, 0, 0) := rfl
theorem zh_X10_findPieces_93 : zfe zqX10_findPieces.i 93 = some (93, .iload_n 2, 1, 0, 0, 0) := rfl
theorem zh_X10_findPieces_94 : zfe zqX10_findPieces.i 94 = some (94, .aload_n 0, 1, 0, 0, 0) := rfl
theorem zh_X10_findPieces_95 : zfe zqX10_findPieces.i 95 = some (95, .getfield 23, 3, 9, 7, 0) := rfl
theorem zh_X10_findPieces_98 : zfe zqX10_findPieces.i 98 = some (98, .iload_n 1, 1, 0, 0, 0) := rfl
theorem zh_X10_findPieces_99 : zfe zqX10_findPieces.i 99 = some (99, .iaload, 1, 0, 0, 0) := rfl
theorem zh_X10_findPieces_100 : zfe zqX10_findPieces.i 100 = some (100, .if_icmp .gt 68, 3, 0, 0, 0) := rfl
theorem zh_X10_findPieces_103 : zfe zqX10_findPieces.i 103 = some (103, .aload_n 0, 1, 0, 0, 0) := rfl
theorem zh_X10_findPieces_104 : zfe zqX10_findPieces.i 104 = some (104, .getfield 26, 3, 9, 8, 0) := rfl
theorem zh_X10_findPieces_107 : zfe zqX10_findPieces.i 107 = some (107, .bipush 7, 2, 0, 0, 0) := rfl
theorem zh_X10_findPieces_109 : zfe zqX10_findPieces.i 109 = some (109, .iload_n 1, 1, 0, 0, 0) := rfl
theorem zh_X10_findPieces_110 : zfe zqX10_findPieces.i 110 = some (110, .imul, 1, 0, 0, 0) := rfl
theorem zh_X10_findPieces_111 : zfe zqX10_findPieces.i 111 = some (111, .iload_n 2, 1, 0, 0, 0) := rfl
theorem zh_X10_findPieces_112 : zfe zqX10_findPieces.i 112 = some (112, .iadd, 1, 0, 0, 0) := rfl
theorem zh_X10_findPieces_113 : zfe zqX10_findPieces.i 113 = some (113, .aload_n 0, 1, 0, 0, 0) := rfl
theorem zh_X10_findPieces_114 : zfe zqX10_findPieces.i 114 = some (114, .getfield 32, 3, 9, 10, 0) := rfl
theorem zh_X10_findPieces_117 : zfe zqX10_findPieces.i 117 = some (117, .aload_n 0, 1, 0, 0, 0) := rfl
theorem zh_X10_findPieces_118 : zfe zqX10_findPieces.i 118 = some (118, .getfield 20, 3, 9, 6, 0) := rfl
theorem zh_X10_findPieces_121 : zfe zqX10_findPieces.i 121 = some (121, .iload_n 1, 1, 0, 0, 0) := rfl
theorem zh_X10_findPieces_122 : zfe zqX10_findPieces.i 122 = some (122, .iaload, 1, 0, 0, 0) := rfl
theorem zh_X10_findPieces_123 : zfe zqX10_findPieces.i 123 = some (123, .iconst 0, 1, 0, 0, 0) := rfl
theorem zh_X10_findPieces_124 : zfe zqX10_findPieces.i 124 = some (124, .iload_n 2, 1, 0, 0, 0) := rfl
theorem zh_X10_findPieces_125 : zfe zqX10_findPieces.i 125 = some (125, .invokestatic 86, 3, 120, 3, 0) := rfl
theorem zh_X10_findPieces_128 : zfe zqX10_findPieces.i 128 = some (128, .iaload, 1, 0, 0, 0) := rfl
theorem zh_X10_findPieces_129 : zfe zqX10_findPieces.i 129 = some (129, .iastore, 1, 0, 0, 0) := rfl
theorem zh_X10_findPieces_130 : zfe zqX10_findPieces.i 130 = some (130, .aload_n 0, 1, 0, 0, 0) := rfl
theorem zh_X10_findPieces_131 : zfe zqX10_findPieces.i 131 = some (131, .getfield 29, 3, 9, 9, 0) := rfl
theorem zh_X10_findPieces_134 : zfe zqX10_findPieces.i 134 = some (134, .bipush 7, 2, 0, 0, 0) := rfl
theorem zh_X10_findPieces_136 : zfe zqX10_findPieces.i 136 = some (136, .iload_n 1, 1, 0, 0, 0) := rfl
theorem zh_X10_findPieces_137 : zfe zqX10_findPieces.i 137 = some (137, .imul, 1, 0, 0, 0) := rfl
theorem zh_X10_findPieces_138 : zfe zqX10_findPieces.i 138 = some (138, .iload_n 2, 1, 0, 0, 0) := rfl
theorem zh_X10_findPieces_139 : zfe zqX10_findPieces.i 139 = some (139, .iadd, 1, 0, 0, 0) := rfl
theorem zh_X10_findPieces_140 : zfe zqX10_findPieces.i 140 = some (140, .aload_n 0, 1, 0, 0, 0) := rfl
theorem zh_X10_findPieces_141 : zfe zqX10_findPieces.i 141 = some (141, .getfield 32, 3, 9, 10, 0) := rfl
theorem zh_X10_findPieces_144 : zfe zqX10_findPieces.i 144 = some (144, .aload_n 0, 1, 0, 0, 0) := rfl
theorem zh_X10_findPieces_145 : zfe zqX10_findPieces.i 145 = some (145, .getfield 20, 3, 9, 6, 0) := rfl
theorem zh_X10_findPieces_148 : zfe zqX10_findPieces.i 148 = some (148, .iload_n 1, 1, 0, 0, 0) := rfl
theorem zh_X10_findPieces_149 : zfe zqX10_findPieces.i 149 = some (149, .iaload, 1, 0, 0, 0) := rfl
theorem zh_X10_findPieces_150 : zfe zqX10_findPieces.i 150 = some (150, .iload_n 2, 1, 0, 0, 0) := rfl
theorem zh_X10_findPieces_151 : zfe zqX10_findPieces.i 151 = some (151, .aload_n 0, 1, 0, 0, 0) := rfl
theorem zh_X10_findPieces_152 : zfe zqX10_findPieces.i 152 = some (152, .getfield 23, 3, 9, 7, 0) := rfl
theorem zh_X10_findPieces_155 : zfe zqX10_findPieces.i 155 = some (155, .iload_n 1, 1, 0, 0, 0) := rfl
theorem zh_X10_findPieces_156 : zfe zqX10_findPieces.i 156 = some (156, .iaload, 1, 0, 0, 0) := rfl
theorem zh_X10_findPieces_157 : zfe zqX10_findPieces.i 157 = some (157, .invokestatic 86, 3, 120, 3, 0) := rfl
theorem zh_X10_findPieces_160 : zfe zqX10_findPieces.i 160 = some (160, .iaload, 1, 0, 0, 0) := rfl
theorem zh_X10_findPieces_161 : zfe zqX10_findPieces.i 161 = some (161, .iastore, 1, 0, 0, 0) := rfl
theorem zh_X10_findPieces_162 : zfe zqX10_findPieces.i 162 = some (162, .iinc 2 1, 3, 0, 0, 0) := rfl
theorem zh_X10_findPieces_165 : zfe zqX10_findPieces.i 165 = some (165, .goto (-72), 3, 0, 0, 0) := rfl
theorem zh_X10_findPieces_168 : zfe zqX10_findPieces.i 168 = some (168, .iinc 1 1, 3, 0, 0, 0) := rfl
theorem zh_X10_findPieces_171 : zfe zqX10_findPieces.i 171 = some (171, .goto (-88), 3, 0, 0, 0) := rfl
theorem zh_X10_findPieces_174 : zfe zqX10_findPieces.i 174 = some (174, .aload_n 0, 1, 0, 0, 0) := rfl
theorem zh_X10_findPieces_175 : zfe zqX10_findPieces.i 175 = some (175, .iconst 0, 1, 0, 0, 0) := rfl
theorem zh_X10_findPieces_176 : zfe zqX10_findPieces.i 176 = some (176, .putfield 97, 3, 9, 17, 0) := rfl
theorem zh_X10_findPieces_179 : zfe zqX10_findPieces.i 179 = some (179, .return_, 1, 0, 0, 0) := rfl
theorem ze_X10_findPieces_0 {d : Nat} {f : zF} {m : zM} {x0 : Nat} {a1 a2 : Value} : zex zTb d zqX10_findPieces 0 [.ref x0, a1, a2] [] f m = if zisc (f x0) 9 = true then zcal zTb (zrun zTb d 121 [.ref x0] f m) d zqX10_findPieces 1 4 [.ref x0, a1, a2] [] else none := (zxl_go (x := (1, [.ref x0, a1, a2], [.ref x0], f, m)) zh_X10_findPieces_0 rfl).trans ((zx_virtual4 zh_X10_findPieces_1 (Nat.le_of_ble_eq_true rfl) rfl rfl (Nat.le_of_ble_eq_true rfl)))
theorem ze_X10_findPieces_4 {d : Nat} {f : zF} {m : zM} {x0 : Nat} {a1 a2 : Value} {y0 : Int32} : zex zTb d zqX10_findPieces 4 [.ref x0, a1, a2] [.int y0] f m = if (zco (f x0) 9 5 && zok (zfty 9 5) (.int (I 0))) = true then zex zTb d zqX10_findPieces 10 [.ref x0, a1, a2] [] (zup f x0 (zcs (f x0) 5 (.int (I 0)))) m else none := (zxl_go (x := (5, [.ref x0, a1, a2], [], f, m)) zh_X10_findPieces_4 rfl).trans ((zxl_go (x := (6, [.ref x0, a1, a2], [.ref x0], f, m)) zh_X10_findPieces_5 rfl).trans ((zx_iconst zh_X10_findPieces_6).trans ((zx_putfield zh_X10_findPieces_7))))
theorem ze_X10_findPieces_10 {d : Nat} {f : zF} {m : zM} {a0 a1 a2 : Value} : zex zTb d zqX10_findPieces 10 [a0, a1, a2] [] f m = zex zTb d zqX10_findPieces 12 [(zclr a0), .int (I 0), a2] [] f m := (zx_iconst zh_X10_findPieces_10).trans ((zxl_go (x := (12, [(zclr a0), .int (I 0), a2], [], f, m)) zh_X10_findPieces_11 rfl))
theorem ze_X10_findPieces_12 {d : Nat} {f : zF} {m : zM} {a0 a2 : Value} {x1 : Int32} : zex zTb d zqX10_findPieces 12 [a0, .int x1, a2] [] f m = if zc2 .ge x1 (I 4096) = true then zex zTb d zqX10_findPieces 81 [a0, .int x1, a2] [] f m else zex zTb d zqX10_findPieces 19 [a0, .int x1, a2] [] f m := (zxl_go (x := (13, [a0, .int x1, a2], [.int x1], f, m)) zh_X10_findPieces_12 rfl).trans ((zx_sipush zh_X10_findPieces_13 (by decide)).trans ((zx_icmp (tgt := 81) zh_X10_findPieces_16 rfl)))
theorem ze_X10_findPieces_19 {d : Nat} {f : zF} {m : zM} {x0 : Nat} {a1 a2 : Value} : zex zTb d zqX10_findPieces 19 [.ref x0, a1, a2] [] f m = if zco (f x0) 9 10 = true then zex zTb d zqX10_findPieces 23 [.ref x0, a1, a2] [zcf (f x0) 10] f m else none := (zxl_go (x := (20, [.ref x0, a1, a2], [.ref x0], f, m)) zh_X10_findPieces_19 rfl).trans ((zx_getfield zh_X10_findPieces_20))
theorem ze_X10_findPieces_23 {d : Nat} {f : zF} {m : zM} {a0 a2 : Value} {x1 : Int32} {y0 : Nat} : zex zTb d zqX10_findPieces 23 [a0, .int x1, a2] [.ref y0] f m = if zr8 (f y0) x1 = true then zex zTb d zqX10_findPieces 25 [a0, .int x1, a2] [.int (zgi (f y0) x1.toNatClampNeg)] f m else none := (zxl_go (x := (24, [a0, .int x1, a2], [.int x1, .ref y0], f, m)) zh_X10_findPieces_23 rfl).trans ((zx_iaload zh_X10_findPieces_24))
theorem ze_X10_findPieces_25 {d : Nat} {f : zF} {m : zM} {a0 a1 a2 : Value} {y0 : Int32} : zex zTb d zqX10_findPieces 25 [a0, a1, a2] [.int y0] f m = if zc2 .ne y0 (I (-1)) = true then zex zTb d zqX10_findPieces 32 [a0, a1, a2] [] f m else zex zTb d zqX10_findPieces 29 [a0, a1, a2] [] f m := (zx_iconst zh_X10_findPieces_25).trans ((zx_icmp (tgt := 32) zh_X10_findPieces_26 rfl))
theorem ze_X10_findPieces_29 {d : Nat} {f : zF} {m : zM} {a0 a2 : Value} {x1 : Int32} : zex zTb d zqX10_findPieces 29 [a0, .int x1, a2] [] f m = zex zTb d zqX10_findPieces 12 [(zclr a0), .int (x1 + I 1), a2] [] f m := (zx_goto zh_X10_findPieces_29 rfl).trans ((zxl_go (x := (78, [(zclr a0), .int (x1 + I 1), a2], [], f, m)) zh_X10_findPieces_75 rfl).trans ((zx_goto zh_X10_findPieces_78 rfl)))
theorem ze_X10_findPieces_32 {d : Nat} {f : zF} {m : zM} {x0 : Nat} {a1 a2 : Value} : zex zTb d zqX10_findPieces 32 [.ref x0, a1, a2] [] f m = if zco (f x0) 9 10 = true then zex zTb d zqX10_findPieces 36 [.ref x0, a1, a2] [zcf (f x0) 10] f m else none := (zxl_go (x := (33, [.ref x0, a1, a2], [.ref x0], f, m)) zh_X10_findPieces_32 rfl).trans ((zx_getfield zh_X10_findPieces_33))
theorem ze_X10_findPieces_36 {d : Nat} {f : zF} {m : zM} {x0 y0 : Nat} {x1 : Int32} {a2 : Value} : zex zTb d zqX10_findPieces 36 [.ref x0, .int x1, a2] [.ref y0] f m = if zco (f x0) 9 5 = true then zex zTb d zqX10_findPieces 41 [.ref x0, .int x1, a2] [zcf (f x0) 5, .int x1, .ref y0] f m else none := (zxl_go (x := (37, [.ref x0, .int x1, a2], [.int x1, .ref y0], f, m)) zh_X10_findPieces_36 rfl).trans ((zxl_go (x := (38, [.ref x0, .int x1, a2], [.ref x0, .int x1, .ref y0], f, m)) zh_X10_findPieces_37 rfl).trans ((zx_getfield zh_X10_findPieces_38)))
theorem ze_X10_findPieces_41 {d : Nat} {f : zF} {m : zM} {a0 a1 a2 : Value} {y0 : Nat} {y1 y2 : Int32} : zex zTb d zqX10_findPieces 41 [a0, a1, a2] [.int y2, .int y1, .ref y0] f m = if zri (f y0) 0 y1 = true then zex zTb d zqX10_findPieces 42 [a0, a1, a2] [] (zup f y0 (zwi (f y0) 0 y1.toNatClampNeg y2)) m else none := (zx_iastore zh_X10_findPieces_41)
theorem ze_X10_findPieces_42 {d : Nat} {f : zF} {m : zM} {x0 : Nat} {a1 a2 : Value} : zex zTb d zqX10_findPieces 42 [.ref x0, a1, a2] [] f m = if zco (f x0) 9 6 = true then zex zTb d zqX10_findPieces 46 [.ref x0, a1, a2] [zcf (f x0) 6] f m else none := (zxl_go (x := (43, [.ref x0, a1, a2], [.ref x0], f, m)) zh_X10_findPieces_42 rfl).trans ((zx_getfield zh_X10_findPieces_43))
theorem ze_X10_findPieces_46 {d : Nat} {f : zF} {m : zM} {x0 y0 : Nat} {a1 a2 : Value} : zex zTb d zqX10_findPieces 46 [.ref x0, a1, a2] [.ref y0] f m = if zco (f x0) 9 5 = true then zex zTb d zqX10_findPieces 50 [.ref x0, a1, a2] [zcf (f x0) 5, .ref y0] f m else none := (zxl_go (x := (47, [.ref x0, a1, a2], [.ref x0, .ref y0], f, m)) zh_X10_findPieces_46 rfl).trans ((zx_getfield zh_X10_findPieces_47))
theorem ze_X10_findPieces_50 {d : Nat} {f : zF} {m : zM} {a0 a2 : Value} {x1 y1 : Int32} {y0 : Nat} : zex zTb d zqX10_findPieces 50 [a0, .int x1, a2] [.int y1, .ref y0] f m = if zri (f y0) 0 y1 = true then zex zTb d zqX10_findPieces 52 [a0, .int x1, a2] [] (zup f y0 (zwi (f y0) 0 y1.toNatClampNeg x1)) m else none := (zxl_go (x := (51, [a0, .int x1, a2], [.int x1, .int y1, .ref y0], f, m)) zh_X10_findPieces_50 rfl).trans ((zx_iastore zh_X10_findPieces_51))
theorem ze_X10_findPieces_52 {d : Nat} {f : zF} {m : zM} {x0 : Nat} {a1 a2 : Value} : zex zTb d zqX10_findPieces 52 [.ref x0, a1, a2] [] f m = if zco (f x0) 9 7 = true then zex zTb d zqX10_findPieces 56 [.ref x0, a1, a2] [zcf (f x0) 7] f m else none := (zxl_go (x := (53, [.ref x0, a1, a2], [.ref x0], f, m)) zh_X10_findPieces_52 rfl).trans ((zx_getfield zh_X10_findPieces_53))
theorem ze_X10_findPieces_56 {d : Nat} {f : zF} {m : zM} {x0 y0 : Nat} {a1 a2 : Value} : zex zTb d zqX10_findPieces 56 [.ref x0, a1, a2] [.ref y0] f m = if zco (f x0) 9 5 = true then zex zTb d zqX10_findPieces 60 [.ref x0, a1, a2] [zcf (f x0) 5, .ref y0] f m else none := (zxl_go (x := (57, [.ref x0, a1, a2], [.ref x0, .ref y0], f, m)) zh_X10_findPieces_56 rfl).trans ((zx_getfield zh_X10_findPieces_57))
theorem ze_X10_findPieces_60 {d : Nat} {f : zF} {m : zM} {a0 a2 : Value} {x1 y1 : Int32} {y0 : Nat} : zex zTb d zqX10_findPieces 60 [a0, .int x1, a2] [.int y1, .ref y0] f m = zcal zTb (zrun zTb d 119 [.int x1] f m) d zqX10_findPieces 61 64 [a0, .int x1, a2] [.int y1, .ref y0] := (zxl_go (x := (61, [a0, .int x1, a2], [.int x1, .int y1, .ref y0], f, m)) zh_X10_findPieces_60 rfl).trans (((zx_static zh_X10_findPieces_61 (Nat.le_of_ble_eq_true rfl) rfl rfl).trans (if_pos (Nat.le_of_ble_eq_true rfl))))
theorem ze_X10_findPieces_64 {d : Nat} {f : zF} {m : zM} {a0 a1 a2 : Value} {y0 : Nat} {y1 y2 : Int32} : zex zTb d zqX10_findPieces 64 [a0, a1, a2] [.int y2, .int y1, .ref y0] f m = if zri (f y0) 0 y1 = true then zex zTb d zqX10_findPieces 65 [a0, a1, a2] [] (zup f y0 (zwi (f y0) 0 y1.toNatClampNeg y2)) m else none := (zx_iastore zh_X10_findPieces_64)
theorem ze_X10_findPieces_65 {d : Nat} {f : zF} {m : zM} {x0 : Nat} {a1 a2 : Value} : zex zTb d zqX10_findPieces 65 [.ref x0, a1, a2] [] f m = if zco (f x0) 9 5 = true then zex zTb d zqX10_findPieces 70 [.ref x0, a1, a2] [zcf (f x0) 5, .ref x0] f m else none := (zxl_go (x := (66, [.ref x0, a1, a2], [.ref x0], f, m)) zh_X10_findPieces_65 rfl).trans ((zxl_go (x := (67, [.ref x0, a1, a2], [.ref x0, .ref x0], f, m)) zh_X10_findPieces_66 rfl).trans ((zx_getfield zh_X10_findPieces_67)))
theorem ze_X10_findPieces_70 {d : Nat} {f : zF} {m : zM} {a0 a1 a2 : Value} {y0 : Nat} {y1 : Int32} : zex zTb d zqX10_findPieces 70 [a0, a1, a2] [.int y1, .ref y0] f m = if (zco (f y0) 9 5 && zok (zfty 9 5) (.int (y1 + (I 1)))) = true then zex zTb d zqX10_findPieces 75 [a0, a1, a2] [] (zup f y0 (zcs (f y0) 5 (.int (y1 + (I 1))))) m else none := (zx_iconst zh_X10_findPieces_70).trans ((zxl_go (x := (72, [a0, a1, a2], [.int (y1 + (I 1)), .ref y0], f, m)) zh_X10_findPieces_71 rfl).trans ((zx_putfield zh_X10_findPieces_72)))
theorem ze_X10_findPieces_75 {d : Nat} {f : zF} {m : zM} {a0 a2 : Value} {x1 : Int32} : zex zTb d zqX10_findPieces 75 [a0, .int x1, a2] [] f m = zex zTb d zqX10_findPieces 12 [(zclr a0), .int (x1 + I 1), a2] [] f m := (zxl_go (x := (78, [(zclr a0), .int (x1 + I 1), a2], [], f, m)) zh_X10_findPieces_75 rfl).trans ((zx_goto zh_X10_findPieces_78 rfl))
theorem ze_X10_findPieces_81 {d : Nat} {f : zF} {m : zM} {a0 a1 a2 : Value} : zex zTb d zqX10_findPieces 81 [a0, a1, a2] [] f m = zex zTb d zqX10_findPieces 83 [(zclr a0), .int (I 0), a2] [] f m := (zx_iconst zh_X10_findPieces_81).trans ((zxl_go (x := (83, [(zclr a0), .int (I 0), a2], [], f, m)) zh_X10_findPieces_82 rfl))
theorem ze_X10_findPieces_83 {d : Nat} {f : zF} {m : zM} {x0 : Nat} {x1 : Int32} {a2 : Value} : zex zTb d zqX10_findPieces 83 [.ref x0, .int x1, a2] [] f m = if zco (f x0) 9 5 = true then zex zTb d zqX10_findPieces 88 [.ref x0, .int x1, a2] [zcf (f x0) 5, .int x1] f m else none := (zxl_go (x := (84, [.ref x0, .int x1, a2], [.int x1], f, m)) zh_X10_findPieces_83 rfl).trans ((zxl_go (x := (85, [.ref x0, .int x1, a2], [.ref x0, .int x1], f, m)) zh_X10_findPieces_84 rfl).trans ((zx_getfield zh_X10_findPieces_85)))
theorem ze_X10_findPieces_88 {d : Nat} {f : zF} {m : zM} {a0 a1 a2 : Value} {y0 y1 : Int32} : zex zTb d zqX10_findPieces 88 [a0, a1, a2] [.int y1, .int y0] f m = if zc2 .ge y0 y1 = true then zex zTb d zqX10_findPieces 174 [a0, a1, a2] [] f m else zex zTb d zqX10_findPieces 91 [a0, a1, a2] [] f m := (zx_icmp (tgt := 174) zh_X10_findPieces_88 rfl)
theorem ze_X10_findPieces_91 {d : Nat} {f : zF} {m : zM} {a0 a1 a2 : Value} : zex zTb d zqX10_findPieces 91 [a0, a1, a2] [] f m = zex zTb d zqX10_findPieces 93 [a0, (zclr a1), .int (I 0)] [] f m := (zx_iconst zh_X10_findPieces_91).trans ((zxl_go (x := (93, [a0, (zclr a1), .int (I 0)], [], f, m)) zh_X10_findPieces_92 rfl))
theorem ze_X10_findPieces_93 {d : Nat} {f : zF} {m : zM} {x0 : Nat} {a1 : Value} {x2 : Int32} : zex zTb d zqX10_findPieces 93 [.ref x0, a1, .int x2] [] f m = if zco (f x0) 9 7 = true then zex zTb d zqX10_findPieces 98 [.ref x0, a1, .int x2] [zcf (f x0) 7, .int x2] f m else none := (zxl_go (x := (94, [.ref x0, a1, .int x2], [.int x2], f, m)) zh_X10_findPieces_93 rfl).trans ((zxl_go (x := (95, [.ref x0, a1, .int x2], [.ref x0, .int x2], f, m)) zh_X10_findPieces_94 rfl).trans ((zx_getfield zh_X10_findPieces_95)))
theorem ze_X10_findPieces_98 {d : Nat} {f : zF} {m : zM} {a0 a2 : Value} {x1 y0 : Int32} {y1 : Nat} : zex zTb d zqX10_findPieces 98 [a0, .int x1, a2] [.ref y1, .int y0] f m = if zr8 (f y1) x1 = true then zex zTb d zqX10_findPieces 100 [a0, .int x1, a2] [.int (zgi (f y1) x1.toNatClampNeg), .int y0] f m else none := (zxl_go (x := (99, [a0, .int x1, a2], [.int x1, .ref y1, .int y0], f, m)) zh_X10_findPieces_98 rfl).trans ((zx_iaload zh_X10_findPieces_99))
theorem ze_X10_findPieces_100 {d : Nat} {f : zF} {m : zM} {a0 a1 a2 : Value} {y0 y1 : Int32} : zex zTb d zqX10_findPieces 100 [a0, a1, a2] [.int y1, .int y0] f m = if zc2 .gt y0 y1 = true then zex zTb d zqX10_findPieces 168 [a0, a1, a2] [] f m else zex zTb d zqX10_findPieces 103 [a0, a1, a2] [] f m := (zx_icmp (tgt := 168) zh_X10_findPieces_100 rfl)
theorem ze_X10_findPieces_103 {d : Nat} {f : zF} {m : zM} {x0 : Nat} {a1 a2 : Value} : zex zTb d zqX10_findPieces 103 [.ref x0, a1, a2] [] f m = if zco (f x0) 9 8 = true then zex zTb d zqX10_findPieces 107 [.ref x0, a1, a2] [zcf (f x0) 8] f m else none := (zxl_go (x := (104, [.ref x0, a1, a2], [.ref x0], f, m)) zh_X10_findPieces_103 rfl).trans ((zx_getfield zh_X10_findPieces_104))
theorem ze_X10_findPieces_107 {d : Nat} {f : zF} {m : zM} {x0 y0 : Nat} {x1 x2 : Int32} : zex zTb d zqX10_findPieces 107 [.ref x0, .int x1, .int x2] [.ref y0] f m = if zco (f x0) 9 10 = true then zex zTb d zqX10_findPieces 117 [.ref x0, .int x1, .int x2] [zcf (f x0) 10, .int (((I 7) * x1) + x2), .ref y0] f m else none := (zx_bipush zh_X10_findPieces_107 (by decide)).trans ((zxl_go (x := (110, [.ref x0, .int x1, .int x2], [.int x1, .int (I 7), .ref y0], f, m)) zh_X10_findPieces_109 rfl).trans ((zxl_go (x := (111, [.ref x0, .int x1, .int x2], [.int ((I 7) * x1), .ref y0], f, m)) zh_X10_findPieces_110 rfl).trans ((zxl_go (x := (112, [.ref x0, .int x1, .int x2], [.int x2, .int ((I 7) * x1), .ref y0], f, m)) zh_X10_findPieces_111 rfl).trans ((zxl_go (x := (113, [.ref x0, .int x1, .int x2], [.int (((I 7) * x1) + x2), .ref y0], f, m)) zh_X10_findPieces_112 rfl).trans ((zxl_go (x := (114, [.ref x0, .int x1, .int x2], [.ref x0, .int (((I 7) * x1) + x2), .ref y0], f, m)) zh_X10_findPieces_113 rfl).trans ((zx_getfield zh_X10_findPieces_114)))))))
theorem ze_X10_findPieces_117 {d : Nat} {f : zF} {m : zM} {x0 y0 y2 : Nat} {a1 a2 : Value} {y1 : Int32} : zex zTb d zqX10_findPieces 117 [.ref x0, a1, a2] [.ref y2, .int y1, .ref y0] f m = if zco (f x0) 9 6 = true then zex zTb d zqX10_findPieces 121 [.ref x0, a1, a2] [zcf (f x0) 6, .ref y2, .int y1, .ref y0] f m else none := (zxl_go (x := (118, [.ref x0, a1, a2], [.ref x0, .ref y2, .int y1, .ref y0], f, m)) zh_X10_findPieces_117 rfl).trans ((zx_getfield zh_X10_findPieces_118))
theorem ze_X10_findPieces_121 {d : Nat} {f : zF} {m : zM} {a0 a2 : Value} {x1 y1 : Int32} {y0 y2 y3 : Nat} : zex zTb d zqX10_findPieces 121 [a0, .int x1, a2] [.ref y3, .ref y2, .int y1, .ref y0] f m = if zr8 (f y3) x1 = true then zex zTb d zqX10_findPieces 123 [a0, .int x1, a2] [.int (zgi (f y3) x1.toNatClampNeg), .ref y2, .int y1, .ref y0] f m else none := (zxl_go (x := (122, [a0, .int x1, a2], [.int x1, .ref y3, .ref y2, .int y1, .ref y0], f, m)) zh_X10_findPieces_121 rfl).trans ((zx_iaload zh_X10_findPieces_122))
theorem ze_X10_findPieces_123 {d : Nat} {f : zF} {m : zM} {a0 a1 : Value} {x2 y1 y3 : Int32} {y0 y2 : Nat} : zex zTb d zqX10_findPieces 123 [a0, a1, .int x2] [.int y3, .ref y2, .int y1, .ref y0] f m = zcal zTb (zrun zTb d 120 [.int y3, .int (I 0), .int x2] f m) d zqX10_findPieces 125 128 [a0, a1, .int x2] [.ref y2, .int y1, .ref y0] := (zx_iconst zh_X10_findPieces_123).trans ((zxl_go (x := (125, [a0, a1, .int x2], [.int x2, .int (I 0), .int y3, .ref y2, .int y1, .ref y0], f, m)) zh_X10_findPieces_124 rfl).trans (((zx_static zh_X10_findPieces_125 (Nat.le_of_ble_eq_true rfl) rfl rfl).trans (if_pos (Nat.le_of_ble_eq_true rfl)))))
theorem ze_X10_findPieces_128 {d : Nat} {f : zF} {m : zM} {a0 a1 a2 : Value} {y0 y2 : Nat} {y1 y3 : Int32} : zex zTb d zqX10_findPieces 128 [a0, a1, a2] [.int y3, .ref y2, .int y1, .ref y0] f m = if zr8 (f y2) y3 = true then zex zTb d zqX10_findPieces 129 [a0, a1, a2] [.int (zgi (f y2) y3.toNatClampNeg), .int y1, .ref y0] f m else none := (zx_iaload zh_X10_findPieces_128)
theorem ze_X10_findPieces_129 {d : Nat} {f : zF} {m : zM} {a0 a1 a2 : Value} {y0 : Nat} {y1 y2 : Int32} : zex zTb d zqX10_findPieces 129 [a0, a1, a2] [.int y2, .int y1, .ref y0] f m = if zri (f y0) 0 y1 = true then zex zTb d zqX10_findPieces 130 [a0, a1, a2] [] (zup f y0 (zwi (f y0) 0 y1.toNatClampNeg y2)) m else none := (zx_iastore zh_X10_findPieces_129)
theorem ze_X10_findPieces_130 {d : Nat} {f : zF} {m : zM} {x0 : Nat} {a1 a2 : Value} : zex zTb d zqX10_findPieces 130 [.ref x0, a1, a2] [] f m = if zco (f x0) 9 9 = true then zex zTb d zqX10_findPieces 134 [.ref x0, a1, a2] [zcf (f x0) 9] f m else none := (zxl_go (x := (131, [.ref x0, a1, a2], [.ref x0], f, m)) zh_X10_findPieces_130 rfl).trans ((zx_getfield zh_X10_findPieces_131))
theorem ze_X10_findPieces_134 {d : Nat} {f : zF} {m : zM} {x0 y0 : Nat} {x1 x2 : Int32} : zex zTb d zqX10_findPieces 134 [.ref x0, .int x1, .int x2] [.ref y0] f m = if zco (f x0) 9 10 = true then zex zTb d zqX10_findPieces 144 [.ref x0, .int x1, .int x2] [zcf (f x0) 10, .int (((I 7) * x1) + x2), .ref y0] f m else none := (zx_bipush zh_X10_findPieces_134 (by decide)).trans ((zxl_go (x := (137, [.ref x0, .int x1, .int x2], [.int x1, .int (I 7), .ref y0], f, m)) zh_X10_findPieces_136 rfl).trans ((zxl_go (x := (138, [.ref x0, .int x1, .int x2], [.int ((I 7) * x1), .ref y0], f, m)) zh_X10_findPieces_137 rfl).trans ((zxl_go (x := (139, [.ref x0, .int x1, .int x2], [.int x2, .int ((I 7) * x1), .ref y0], f, m)) zh_X10_findPieces_138 rfl).trans ((zxl_go (x := (140, [.ref x0, .int x1, .int x2], [.int (((I 7) * x1) + x2), .ref y0], f, m)) zh_X10_findPieces_139 rfl).trans ((zxl_go (x := (141, [.ref x0, .int x1, .int x2], [.ref x0, .int (((I 7) * x1) + x2), .ref y0], f, m)) zh_X10_findPieces_140 rfl).trans ((zx_getfield zh_X10_findPieces_141)))))))
theorem ze_X10_findPieces_144 {d : Nat} {f : zF} {m : zM} {x0 y0 y2 : Nat} {a1 a2 : Value} {y1 : Int32} : zex zTb d zqX10_findPieces 144 [.ref x0, a1, a2] [.ref y2, .int y1, .ref y0] f m = if zco (f x0) 9 6 = true then zex zTb d zqX10_findPieces 148 [.ref x0, a1, a2] [zcf (f x0) 6, .ref y2, .int y1, .ref y0] f m else none := (zxl_go (x := (145, [.ref x0, a1, a2], [.ref x0, .ref y2, .int y1, .ref y0], f, m)) zh_X10_findPieces_144 rfl).trans ((zx_getfield zh_X10_findPieces_145))
theorem ze_X10_findPieces_148 {d : Nat} {f : zF} {m : zM} {a0 a2 : Value} {x1 y1 : Int32} {y0 y2 y3 : Nat} : zex zTb d zqX10_findPieces 148 [a0, .int x1, a2] [.ref y3, .ref y2, .int y1, .ref y0] f m = if zr8 (f y3) x1 = true then zex zTb d zqX10_findPieces 150 [a0, .int x1, a2] [.int (zgi (f y3) x1.toNatClampNeg), .ref y2, .int y1, .ref y0] f m else none := (zxl_go (x := (149, [a0, .int x1, a2], [.int x1, .ref y3, .ref y2, .int y1, .ref y0], f, m)) zh_X10_findPieces_148 rfl).trans ((zx_iaload zh_X10_findPieces_149))
theorem ze_X10_findPieces_150 {d : Nat} {f : zF} {m : zM} {x0 y0 y2 : Nat} {a1 : Value} {x2 y1 y3 : Int32} : zex zTb d zqX10_findPieces 150 [.ref x0, a1, .int x2] [.int y3, .ref y2, .int y1, .ref y0] f m = if zco (f x0) 9 7 = true then zex zTb d zqX10_findPieces 155 [.ref x0, a1, .int x2] [zcf (f x0) 7, .int x2, .int y3, .ref y2, .int y1, .ref y0] f m else none := (zxl_go (x := (151, [.ref x0, a1, .int x2], [.int x2, .int y3, .ref y2, .int y1, .ref y0], f, m)) zh_X10_findPieces_150 rfl).trans ((zxl_go (x := (152, [.ref x0, a1, .int x2], [.ref x0, .int x2, .int y3, .ref y2, .int y1, .ref y0], f, m)) zh_X10_findPieces_151 rfl).trans ((zx_getfield zh_X10_findPieces_152)))
theorem ze_X10_findPieces_155 {d : Nat} {f : zF} {m : zM} {a0 a2 : Value} {x1 y1 y3 y4 : Int32} {y0 y2 y5 : Nat} : zex zTb d zqX10_findPieces 155 [a0, .int x1, a2] [.ref y5, .int y4, .int y3, .ref y2, .int y1, .ref y0] f m = if zr8 (f y5) x1 = true then zex zTb d zqX10_findPieces 157 [a0, .int x1, a2] [.int (zgi (f y5) x1.toNatClampNeg), .int y4, .int y3, .ref y2, .int y1, .ref y0] f m else none := (zxl_go (x := (156, [a0, .int x1, a2], [.int x1, .ref y5, .int y4, .int y3, .ref y2, .int y1, .ref y0], f, m)) zh_X10_findPieces_155 rfl).trans ((zx_iaload zh_X10_findPieces_156))
theorem ze_X10_findPieces_157 {d : Nat} {f : zF} {m : zM} {a0 a1 a2 : Value} {y0 y2 : Nat} {y1 y3 y4 y5 : Int32} : zex zTb d zqX10_findPieces 157 [a0, a1, a2] [.int y5, .int y4, .int y3, .ref y2, .int y1, .ref y0] f m = zcal zTb (zrun zTb d 120 [.int y3, .int y4, .int y5] f m) d zqX10_findPieces 157 160 [a0, a1, a2] [.ref y2, .int y1, .ref y0] := ((zx_static zh_X10_findPieces_157 (Nat.le_of_ble_eq_true rfl) rfl rfl).trans (if_pos (Nat.le_of_ble_eq_true rfl)))
theorem ze_X10_findPieces_160 {d : Nat} {f : zF} {m : zM} {a0 a1 a2 : Value} {y0 y2 : Nat} {y1 y3 : Int32} : zex zTb d zqX10_findPieces 160 [a0, a1, a2] [.int y3, .ref y2, .int y1, .ref y0] f m = if zr8 (f y2) y3 = true then zex zTb d zqX10_findPieces 161 [a0, a1, a2] [.int (zgi (f y2) y3.toNatClampNeg), .int y1, .ref y0] f m else none := (zx_iaload zh_X10_findPieces_160)
theorem ze_X10_findPieces_161 {d : Nat} {f : zF} {m : zM} {a0 a1 a2 : Value} {y0 : Nat} {y1 y2 : Int32} : zex zTb d zqX10_findPieces 161 [a0, a1, a2] [.int y2, .int y1, .ref y0] f m = if zri (f y0) 0 y1 = true then zex zTb d zqX10_findPieces 162 [a0, a1, a2] [] (zup f y0 (zwi (f y0) 0 y1.toNatClampNeg y2)) m else none := (zx_iastore zh_X10_findPieces_161)
theorem ze_X10_findPieces_162 {d : Nat} {f : zF} {m : zM} {a0 a1 : Value} {x2 : Int32} : zex zTb d zqX10_findPieces 162 [a0, a1, .int x2] [] f m = zex zTb d zqX10_findPieces 93 [a0, (zclr a1), .int (x2 + I 1)] [] f m := (zxl_go (x := (165, [a0, (zclr a1), .int (x2 + I 1)], [], f, m)) zh_X10_findPieces_162 rfl).trans ((zx_goto zh_X10_findPieces_165 rfl))
theorem ze_X10_findPieces_168 {d : Nat} {f : zF} {m : zM} {a0 a2 : Value} {x1 : Int32} : zex zTb d zqX10_findPieces 168 [a0, .int x1, a2] [] f m = zex zTb d zqX10_findPieces 83 [(zclr a0), .int (x1 + I 1), a2] [] f m := (zxl_go (x := (171, [(zclr a0), .int (x1 + I 1), a2], [], f, m)) zh_X10_findPieces_168 rfl).trans ((zx_goto zh_X10_findPieces_171 rfl))
theorem ze_X10_findPieces_174 {d : Nat} {f : zF} {m : zM} {x0 : Nat} {a1 a2 : Value} : zex zTb d zqX10_findPieces 174 [.ref x0, a1, a2] [] f m = if (zco (f x0) 9 17 && zok (zfty 9 17) (.int (I 0))) = true then zex zTb d zqX10_findPieces 179 [.ref x0, a1, a2] [] (zup f x0 (zcs (f x0) 17 (.int (I 0)))) m else none := (zxl_go (x := (175, [.ref x0, a1, a2], [.ref x0], f, m)) zh_X10_findPieces_174 rfl).trans ((zx_iconst zh_X10_findPieces_175).trans ((zx_putfield zh_X10_findPieces_176)))
theorem ze_X10_findPieces_179 {d : Nat} {f : zF} {m : zM} {a0 a1 a2 : Value} : zex zTb d zqX10_findPieces 179 [a0, a1, a2] [] f m = some (.inl none, f, m) := (zx_ret zh_X10_findPieces_179 rfl)
-- X10_add
theorem zh_X10_add_0 : zfe zqX10_add.i 0 = some (0, .aload_n 0, 1, 0, 0, 0) := rfl
theorem zh_X10_add_1 : zfe zqX10_add.i 1 = some (1, .iconst 0, 1, 0, 0, 0) := rfl
theorem zh_X10_add_2 : zfe zqX10_add.i 2 = some (2, .putfield 67, 3, 9, 0, 0) := rfl
theorem zh_X10_add_5 : zfe zqX10_add.i 5 = some (5, .lload_n 1, 1, 0, 0, 0) := rfl
theorem zh_X10_add_6 : zfe zqX10_add.i 6 = some (6, .invokestatic 101, 3, 117, 1, 0) := rfl
theorem zh_X10_add_9 : zfe zqX10_add.i 9 = some (9, .istore 4, 2, 0, 0, 0) := rfl
theorem zh_X10_add_11 : zfe zqX10_add.i 11 = some (11, .iload 4, 2, 0, 0, 0) := rfl
theorem zh_X10_add_13 : zfe zqX10_add.i 13 = some (13, .iconst (-1), 1, 0, 0, 0) := rfl
theorem zh_X10_add_14 : zfe zqX10_add.i 14 = some (14, .if_icmp .ne 9, 3, 0, 0, 0) := rfl
theorem zh_X10_add_17 : zfe zqX10_add.i 17 = some (17, .aload_n 0, 1, 0, 0, 0) := rfl
theorem zh_X10_add_18 : zfe zqX10_add.i 18 = some (18, .iconst 1, 1, 0, 0, 0) := rfl
theorem zh_X10_add_19 : zfe zqX10_add.i 19 = some (19, .invokevirtual 105, 3, 114, 2, 9) := rfl
theorem zh_X10_add_22 : zfe zqX10_add.i 22 = some (22, .ireturn, 1, 0, 0, 0) := rfl
theorem zh_X10_add_23 : zfe zqX10_add.i 23 = some (23, .iconst 0, 1, 0, 0, 0) := rfl
theorem zh_X10_add_24 : zfe zqX10_add.i 24 = some (24, .istore 5, 2, 0, 0, 0) := rfl
theorem zh_X10_add_26 : zfe zqX10_add.i 26 = some (26, .iload 5, 2, 0, 0, 0) := rfl
theorem zh_X10_add_28 : zfe zqX10_add.i 28 = some (28, .aload_n 0, 1, 0, 0, 0) := rfl
theorem zh_X10_add_29 : zfe zqX10_add.i 29 = some (29, .getfield 71, 3, 9, 1, 0) := rfl
theorem zh_X10_add_32 : zfe zqX10_add.i 32 = some (32, .if_icmp .ge 27, 3, 0, 0, 0) := rfl
theorem zh_X10_add_35 : zfe zqX10_add.i 35 = some (35, .aload_n 0, 1, 0, 0, 0) := rfl
theorem zh_X10_add_36 : zfe zqX10_add.i 36 = some (36, .getfield 9, 3, 9, 2, 0) := rfl
theorem zh_X10_add_39 : zfe zqX10_add.i 39 = some (39, .iload 5, 2, 0, 0, 0) := rfl
theorem zh_X10_add_41 : zfe zqX10_add.i 41 = some (41, .iaload, 1, 0, 0, 0) := rfl
theorem zh_X10_add_42 : zfe zqX10_add.i 42 = some (42, .iload 4, 2, 0, 0, 0) := rfl
theorem zh_X10_add_44 : zfe zqX10_add.i 44 = some (44, .if_icmp .ne 9, 3, 0, 0, 0) := rfl
theorem zh_X10_add_47 : zfe zqX10_add.i 47 = some (47, .aload_n 0, 1, 0, 0, 0) := rfl
theorem zh_X10_add_48 : zfe zqX10_add.i 48 = some (48, .iconst 2, 1, 0, 0, 0) := rfl
theorem zh_X10_add_49 : zfe zqX10_add.i 49 = some (49, .invokevirtual 105, 3, 114, 2, 9) := rfl
theorem zh_X10_add_52 : zfe zqX10_add.i 52 = some (52, .ireturn, 1, 0, 0, 0) := rfl
theorem zh_X10_add_53 : zfe zqX10_add.i 53 = some (53, .iinc 5 1, 3, 0, 0, 0) := rfl
theorem zh_X10_add_56 : zfe zqX10_add.i 56 = some (56, .goto (-30), 3, 0, 0, 0) := rfl
theorem zh_X10_add_59 : zfe zqX10_add.i 59 = some (59, .aload_n 0, 1, 0, 0, 0) := rfl
theorem zh_X10_add_60 : zfe zqX10_add.i 60 = some (60, .getfield 71, 3, 9, 1, 0) := rfl
theorem zh_X10_add_63 : zfe zqX10_add.i 63 = some (63, .bipush 10, 2, 0, 0, 0) := rfl
theorem zh_X10_add_65 : zfe zqX10_add.i 65 = some (65, .if_icmp .ne 9, 3, 0, 0, 0) := rfl
theorem zh_X10_add_68 : zfe zqX10_add.i 68 = some (68, .aload_n 0, 1, 0, 0, 0) := rfl
theorem zh_X10_add_69 : zfe zqX10_add.i 69 = some (69, .iconst 2, 1, 0, 0, 0) := rfl
theorem zh_X10_add_70 : zfe zqX10_add.i 70 = some (70, .invokevirtual 105, 3, 114, 2, 9) := rfl
theorem zh_X10_add_73 : zfe zqX10_add.i 73 = some (73, .ireturn, 1, 0, 0, 0) := rfl
theorem zh_X10_add_74 : zfe zqX10_add.i 74 = some (74, .aload_n 0, 1, 0, 0, 0) := rfl
theorem zh_X10_add_75 : zfe zqX10_add.i 75 = some (75, .getfield 9, 3, 9, 2, 0) := rfl
theorem zh_X10_add_78 : zfe zqX10_add.i 78 = some (78, .aload_n 0, 1, 0, 0, 0) := rfl
theorem zh_X10_add_79 : zfe zqX10_add.i 79 = some (79, .getfield 71, 3, 9, 1, 0) := rfl
theorem zh_X10_add_82 : zfe zqX10_add.i 82 = some (82, .iload 4, 2, 0, 0, 0) := rfl
theorem zh_X10_add_84 : zfe zqX10_add.i 84 = some (84, .iastore, 1, 0, 0, 0) := rfl
theorem zh_X10_add_85 : zfe zqX10_add.i 85 = some (85, .aload_n 0, 1, 0, 0, 0) := rfl
theorem zh_X10_add_86 : zfe zqX10_add.i 86 = some (86, .getfield 13, 3, 9, 3, 0) := rfl
theorem zh_X10_add_89 : zfe zqX10_add.i 89 = some (89, .aload_n 0, 1, 0, 0, 0) := rfl
theorem zh_X10_add_90 : zfe zqX10_add.i 90 = some (90, .getfield 71, 3, 9, 1, 0) := rfl
theorem zh_X10_add_93 : zfe zqX10_add.i 93 = some (93, .iload_n 3, 1, 0, 0, 0) := rfl
theorem zh_X10_add_94 : zfe zqX10_add.i 94 = some (94, .bastore, 1, 0, 0, 0) := rfl
theorem zh_X10_add_95 : zfe zqX10_add.i 95 = some (95, .aload_n 0, 1, 0, 0, 0) := rfl
theorem zh_X10_add_96 : zfe zqX10_add.i 96 = some (96, .dup, 1, 0, 0, 0) := rfl
theorem zh_X10_add_97 : zfe zqX10_add.i 97 = some (97, .getfield 71, 3, 9, 1, 0) := rfl
theorem zh_X10_add_100 : zfe zqX10_add.i 100 = some (100, .iconst 1, 1, 0, 0, 0) := rfl
theorem zh_X10_add_101 : zfe zqX10_add.i 101 = some (101, .iadd, 1, 0, 0, 0) := rfl
theorem zh_X10_add_102 : zfe zqX10_add.i 102 = some (102, .putfield 71, 3, 9, 1, 0) := rfl
theorem zh_X10_add_105 : zfe zqX10_add.i 105 = some (105, .aload_n 0, 1, 0, 0, 0) := rfl
theorem zh_X10_add_106 : zfe zqX10_add.i 106 = some (106, .invokevirtual 90, 3, 121, 1, 9) := rfl
theorem zh_X10_add_109 : zfe zqX10_add.i 109 = some (109, .bipush 60, 2, 0, 0, 0) := rfl
theorem zh_X10_add_111 : zfe zqX10_add.i 111 = some (111, .if_icmp .le 35, 3, 0, 0, 0) := rfl
theorem zh_X10_add_114 : zfe zqX10_add.i 114 = some (114, .aload_n 0, 1, 0, 0, 0) := rfl
theorem zh_X10_add_115 : zfe zqX10_add.i 115 = some (115, .dup, 1, 0, 0, 0) := rfl
theorem zh_X10_add_116 : zfe zqX10_add.i 116 = some (116, .getfield 71, 3, 9, 1, 0) := rfl
theorem zh_X10_add_119 : zfe zqX10_add.i 119 = some (119, .iconst 1, 1, 0, 0, 0) := rfl
theorem zh_X10_add_120 : zfe zqX10_add.i 120 = some (120, .isub, 1, 0, 0, 0) := rfl
theorem zh_X10_add_121 : zfe zqX10_add.i 121 = some (121, .putfield 71, 3, 9, 1, 0) := rfl
theorem zh_X10_add_124 : zfe zqX10_add.i 124 = some (124, .aload_n 0, 1, 0, 0, 0) := rfl
theorem zh_X10_add_125 : zfe zqX10_add.i 125 = some (125, .getfield 97, 3, 9, 17, 0) := rfl
theorem zh_X10_add_128 : zfe zqX10_add.i 128 = some (128, .istore 5, 2, 0, 0, 0) := rfl
theorem zh_X10_add_130 : zfe zqX10_add.i 130 = some (130, .aload_n 0, 1, 0, 0, 0) := rfl
theorem zh_X10_add_131 : zfe zqX10_add.i 131 = some (131, .invokevirtual 64, 3, 122, 1, 9) := rfl
theorem zh_X10_add_134 : zfe zqX10_add.i 134 = some (134, .aload_n 0, 1, 0, 0, 0) := rfl
theorem zh_X10_add_135 : zfe zqX10_add.i 135 = some (135, .iload 5, 2, 0, 0, 0) := rfl
theorem zh_X10_add_137 : zfe zqX10_add.i 137 = some (137, .putfield 97, 3, 9, 17, 0) := rfl
theorem zh_X10_add_140 : zfe zqX10_add.i 140 = some (140, .aload_n 0, 1, 0, 0, 0) := rfl
theorem zh_X10_add_141 : zfe zqX10_add.i 141 = some (141, .iconst 2, 1, 0, 0, 0) := rfl
theorem zh_X10_add_142 : zfe zqX10_add.i 142 = some (142, .invokevirtual 105, 3, 114, 2, 9) := rfl
theorem zh_X10_add_145 : zfe zqX10_add.i 145 = some (145, .ireturn, 1, 0, 0, 0) := rfl
theorem zh_X10_add_146 : zfe zqX10_add.i 146 = some (146, .aload_n 0, 1, 0, 0, 0) := rfl
theorem zh_X10_add_147 : zfe zqX10_add.i 147 = some (147, .invokevirtual 64, 3, 122, 1, 9) := rfl
theorem zh_X10_add_150 : zfe zqX10_add.i 150 = some (150, .aload_n 0, 1, 0, 0, 0) := rfl
theorem zh_X10_add_151 : zfe zqX10_add.i 151 = some (151, .getfield 71, 3, 9, 1, 0) := rfl
theorem zh_X10_add_154 : zfe zqX10_add.i 154 = some (154, .iconst 1, 1, 0, 0, 0) := rfl
theorem zh_X10_add_155 : zfe zqX10_add.i 155 = some (155, .isub, 1, 0, 0, 0) := rfl
theorem zh_X10_add_156 : zfe zqX10_add.i 156 = some (156, .ireturn, 1, 0, 0, 0) := rfl
theorem ze_X10_add_0 {d : Nat} {f : zF} {m : zM} {x0 : Nat} {a1 a2 a3 a4 a5 : Value} : zex zTb d zqX10_add 0 [.ref x0, a1, a2, a3, a4, a5] [] f m = if (zco (f x0) 9 0 && zok (zfty 9 0) (.int (I 0))) = true then zex zTb d zqX10_add 5 [.ref x0, a1, a2, a3, a4, a5] [] (zup f x0 (zcs (f x0) 0 (.int (I 0)))) m else none := (zxl_go (x := (1, [.ref x0, a1, a2, a3, a4, a5], [.ref x0], f, m)) zh_X10_add_0 rfl).trans ((zx_iconst zh_X10_add_1).trans ((zx_putfield zh_X10_add_2)))
theorem ze_X10_add_5 {d : Nat} {f : zF} {m : zM} {a0 a2 a3 a4 a5 : Value} {x1 : Int64} : zex zTb d zqX10_add 5 [a0, .long x1, a2, a3, a4, a5] [] f m = zcal zTb (zrun zTb d 117 [.long x1] f m) d zqX10_add 6 9 [a0, .long x1, a2, a3, a4, a5] [] := (zxl_go (x := (6, [a0, .long x1, a2, a3, a4, a5], [.long x1], f, m)) zh_X10_add_5 rfl).trans (((zx_static zh_X10_add_6 (Nat.le_of_ble_eq_true rfl) rfl rfl).trans (if_pos (Nat.le_of_ble_eq_true rfl))))
theorem ze_X10_add_9 {d : Nat} {f : zF} {m : zM} {a0 a1 a2 a3 a4 a5 : Value} {y0 : Int32} : zex zTb d zqX10_add 9 [a0, a1, a2, a3, a4, a5] [.int y0] f m = if zc2 .ne y0 (I (-1)) = true then zex zTb d zqX10_add 23 [a0, a1, a2, (zclr a3), .int y0, a5] [] f m else zex zTb d zqX10_add 17 [a0, a1, a2, (zclr a3), .int y0, a5] [] f m := (zxl_go (x := (11, [a0, a1, a2, (zclr a3), .int y0, a5], [], f, m)) zh_X10_add_9 rfl).trans ((zxl_go (x := (13, [a0, a1, a2, (zclr a3), .int y0, a5], [.int y0], f, m)) zh_X10_add_11 rfl).trans ((zx_iconst zh_X10_add_13).trans ((zx_icmp (tgt := 23) zh_X10_add_14 rfl))))
theorem ze_X10_add_17 {d : Nat} {f : zF} {m : zM} {x0 : Nat} {a1 a2 a3 a4 a5 : Value} : zex zTb d zqX10_add 17 [.ref x0, a1, a2, a3, a4, a5] [] f m = if zisc (f x0) 9 = true then zcal zTb (zrun zTb d 114 [.ref x0, .int (I 1)] f m) d zqX10_add 19 22 [.ref x0, a1, a2, a3, a4, a5] [] else none := (zxl_go (x := (18, [.ref x0, a1, a2, a3, a4, a5], [.ref x0], f, m)) zh_X10_add_17 rfl).trans ((zx_iconst zh_X10_add_18).trans ((zx_virtual4 zh_X10_add_19 (Nat.le_of_ble_eq_true rfl) rfl rfl (Nat.le_of_ble_eq_true rfl))))
theorem ze_X10_add_22 {d : Nat} {f : zF} {m : zM} {a0 a1 a2 a3 a4 a5 : Value} {y0 : Int32} : zex zTb d zqX10_add 22 [a0, a1, a2, a3, a4, a5] [.int y0] f m = some (.inl (some (.int y0)), f, m) := (zx_iret zh_X10_add_22 (by first | rfl | decide))
theorem ze_X10_add_23 {d : Nat} {f : zF} {m : zM} {a0 a1 a2 a3 a4 a5 : Value} : zex zTb d zqX10_add 23 [a0, a1, a2, a3, a4, a5] [] f m = zex zTb d zqX10_add 26 [a0, a1, a2, a3, (zclr a4), .int (I 0)] [] f m := (zx_iconst zh_X10_add_23).trans ((zxl_go (x := (26, [a0, a1, a2, a3, (zclr a4), .int (I 0)], [], f, m)) zh_X10_add_24 rfl))
theorem ze_X10_add_26 {d : Nat} {f : zF} {m : zM} {x0 : Nat} {a1 a2 a3 a4 : Value} {x5 : Int32} : zex zTb d zqX10_add 26 [.ref x0, a1, a2, a3, a4, .int x5] [] f m = if zco (f x0) 9 1 = true then zex zTb d zqX10_add 32 [.ref x0, a1, a2, a3, a4, .int x5] [zcf (f x0) 1, .int x5] f m else none := (zxl_go (x := (28, [.ref x0, a1, a2, a3, a4, .int x5], [.int x5], f, m)) zh_X10_add_26 rfl).trans ((zxl_go (x := (29, [.ref x0, a1, a2, a3, a4, .int x5], [.ref x0, .int x5], f, m)) zh_X10_add_28 rfl).trans ((zx_getfield zh_X10_add_29)))
theorem ze_X10_add_32 {d : Nat} {f : zF} {m : zM} {a0 a1 a2 a3 a4 a5 : Value} {y0 y1 : Int32} : zex zTb d zqX10_add 32 [a0, a1, a2, a3, a4, a5] [.int y1, .int y0] f m = if zc2 .ge y0 y1 = true then zex zTb d zqX10_add 59 [a0, a1, a2, a3, a4, a5] [] f m else zex zTb d zqX10_add 35 [a0, a1, a2, a3, a4, a5] [] f m := (zx_icmp (tgt := 59) zh_X10_add_32 rfl)
theorem ze_X10_add_35 {d : Nat} {f : zF} {m : zM} {x0 : Nat} {a1 a2 a3 a4 a5 : Value} : zex zTb d zqX10_add 35 [.ref x0, a1, a2, a3, a4, a5] [] f m = if zco (f x0) 9 2 = true then zex zTb d zqX10_add 39 [.ref x0, a1, a2, a3, a4, a5] [zcf (f x0) 2] f m else none := (zxl_go (x := (36, [.ref x0, a1, a2, a3, a4, a5], [.ref x0], f, m)) zh_X10_add_35 rfl).trans ((zx_getfield zh_X10_add_36))
theorem ze_X10_add_39 {d : Nat} {f : zF} {m : zM} {a0 a1 a2 a3 a4 : Value} {x5 : Int32} {y0 : Nat} : zex zTb d zqX10_add 39 [a0, a1, a2, a3, a4, .int x5] [.ref y0] f m = if zr8 (f y0) x5 = true then zex zTb d zqX10_add 42 [a0, a1, a2, a3, a4, .int x5] [.int (zgi (f y0) x5.toNatClampNeg)] f m else none := (zxl_go (x := (41, [a0, a1, a2, a3, a4, .int x5], [.int x5, .ref y0], f, m)) zh_X10_add_39 rfl).trans ((zx_iaload zh_X10_add_41))
theorem ze_X10_add_42 {d : Nat} {f : zF} {m : zM} {a0 a1 a2 a3 a5 : Value} {x4 y0 : Int32} : zex zTb d zqX10_add 42 [a0, a1, a2, a3, .int x4, a5] [.int y0] f m = if zc2 .ne y0 x4 = true then zex zTb d zqX10_add 53 [a0, a1, a2, a3, .int x4, a5] [] f m else zex zTb d zqX10_add 47 [a0, a1, a2, a3, .int x4, a5] [] f m := (zxl_go (x := (44, [a0, a1, a2, a3, .int x4, a5], [.int x4, .int y0], f, m)) zh_X10_add_42 rfl).trans ((zx_icmp (tgt := 53) zh_X10_add_44 rfl))
theorem ze_X10_add_47 {d : Nat} {f : zF} {m : zM} {x0 : Nat} {a1 a2 a3 a4 a5 : Value} : zex zTb d zqX10_add 47 [.ref x0, a1, a2, a3, a4, a5] [] f m = if zisc (f x0) 9 = true then zcal zTb (zrun zTb d 114 [.ref x0, .int (I 2)] f m) d zqX10_add 49 52 [.ref x0, a1, a2, a3, a4, a5] [] else none := (zxl_go (x := (48, [.ref x0, a1, a2, a3, a4, a5], [.ref x0], f, m)) zh_X10_add_47 rfl).trans ((zx_iconst zh_X10_add_48).trans ((zx_virtual4 zh_X10_add_49 (Nat.le_of_ble_eq_true rfl) rfl rfl (Nat.le_of_ble_eq_true rfl))))
theorem ze_X10_add_52 {d : Nat} {f : zF} {m : zM} {a0 a1 a2 a3 a4 a5 : Value} {y0 : Int32} : zex zTb d zqX10_add 52 [a0, a1, a2, a3, a4, a5] [.int y0] f m = some (.inl (some (.int y0)), f, m) := (zx_iret zh_X10_add_52 (by first | rfl | decide))
theorem ze_X10_add_53 {d : Nat} {f : zF} {m : zM} {a0 a1 a2 a3 a4 : Value} {x5 : Int32} : zex zTb d zqX10_add 53 [a0, a1, a2, a3, a4, .int x5] [] f m = zex zTb d zqX10_add 26 [a0, a1, a2, a3, (zclr a4), .int (x5 + I 1)] [] f m := (zxl_go (x := (56, [a0, a1, a2, a3, (zclr a4), .int (x5 + I 1)], [], f, m)) zh_X10_add_53 rfl).trans ((zx_goto zh_X10_add_56 rfl))
theorem ze_X10_add_59 {d : Nat} {f : zF} {m : zM} {x0 : Nat} {a1 a2 a3 a4 a5 : Value} : zex zTb d zqX10_add 59 [.ref x0, a1, a2, a3, a4, a5] [] f m = if zco (f x0) 9 1 = true then zex zTb d zqX10_add 63 [.ref x0, a1, a2, a3, a4, a5] [zcf (f x0) 1] f m else none := (zxl_go (x := (60, [.ref x0, a1, a2, a3, a4, a5], [.ref x0], f, m)) zh_X10_add_59 rfl).trans ((zx_getfield zh_X10_add_60))
theorem ze_X10_add_63 {d : Nat} {f : zF} {m : zM} {a0 a1 a2 a3 a4 a5 : Value} {y0 : Int32} : zex zTb d zqX10_add 63 [a0, a1, a2, a3, a4, a5] [.int y0] f m = if zc2 .ne y0 (I 10) = true then zex zTb d zqX10_add 74 [a0, a1, a2, a3, a4, a5] [] f m else zex zTb d zqX10_add 68 [a0, a1, a2, a3, a4, a5] [] f m := (zx_bipush zh_X10_add_63 (by decide)).trans ((zx_icmp (tgt := 74) zh_X10_add_65 rfl))
theorem ze_X10_add_68 {d : Nat} {f : zF} {m : zM} {x0 : Nat} {a1 a2 a3 a4 a5 : Value} : zex zTb d zqX10_add 68 [.ref x0, a1, a2, a3, a4, a5] [] f m = if zisc (f x0) 9 = true then zcal zTb (zrun zTb d 114 [.ref x0, .int (I 2)] f m) d zqX10_add 70 73 [.ref x0, a1, a2, a3, a4, a5] [] else none := (zxl_go (x := (69, [.ref x0, a1, a2, a3, a4, a5], [.ref x0], f, m)) zh_X10_add_68 rfl).trans ((zx_iconst zh_X10_add_69).trans ((zx_virtual4 zh_X10_add_70 (Nat.le_of_ble_eq_true rfl) rfl rfl (Nat.le_of_ble_eq_true rfl))))
theorem ze_X10_add_73 {d : Nat} {f : zF} {m : zM} {a0 a1 a2 a3 a4 a5 : Value} {y0 : Int32} : zex zTb d zqX10_add 73 [a0, a1, a2, a3, a4, a5] [.int y0] f m = some (.inl (some (.int y0)), f, m) := (zx_iret zh_X10_add_73 (by first | rfl | decide))
theorem ze_X10_add_74 {d : Nat} {f : zF} {m : zM} {x0 : Nat} {a1 a2 a3 a4 a5 : Value} : zex zTb d zqX10_add 74 [.ref x0, a1, a2, a3, a4, a5] [] f m = if zco (f x0) 9 2 = true then zex zTb d zqX10_add 78 [.ref x0, a1, a2, a3, a4, a5] [zcf (f x0) 2] f m else none := (zxl_go (x := (75, [.ref x0, a1, a2, a3, a4, a5], [.ref x0], f, m)) zh_X10_add_74 rfl).trans ((zx_getfield zh_X10_add_75))
theorem ze_X10_add_78 {d : Nat} {f : zF} {m : zM} {x0 y0 : Nat} {a1 a2 a3 a4 a5 : Value} : zex zTb d zqX10_add 78 [.ref x0, a1, a2, a3, a4, a5] [.ref y0] f m = if zco (f x0) 9 1 = true then zex zTb d zqX10_add 82 [.ref x0, a1, a2, a3, a4, a5] [zcf (f x0) 1, .ref y0] f m else none := (zxl_go (x := (79, [.ref x0, a1, a2, a3, a4, a5], [.ref x0, .ref y0], f, m)) zh_X10_add_78 rfl).trans ((zx_getfield zh_X10_add_79))
theorem ze_X10_add_82 {d : Nat} {f : zF} {m : zM} {a0 a1 a2 a3 a5 : Value} {x4 y1 : Int32} {y0 : Nat} : zex zTb d zqX10_add 82 [a0, a1, a2, a3, .int x4, a5] [.int y1, .ref y0] f m = if zri (f y0) 0 y1 = true then zex zTb d zqX10_add 85 [a0, a1, a2, a3, .int x4, a5] [] (zup f y0 (zwi (f y0) 0 y1.toNatClampNeg x4)) m else none := (zxl_go (x := (84, [a0, a1, a2, a3, .int x4, a5], [.int x4, .int y1, .ref y0], f, m)) zh_X10_add_82 rfl).trans ((zx_iastore zh_X10_add_84))
theorem ze_X10_add_85 {d : Nat} {f : zF} {m : zM} {x0 : Nat} {a1 a2 a3 a4 a5 : Value} : zex zTb d zqX10_add 85 [.ref x0, a1, a2, a3, a4, a5] [] f m = if zco (f x0) 9 3 = true then zex zTb d zqX10_add 89 [.ref x0, a1, a2, a3, a4, a5] [zcf (f x0) 3] f m else none := (zxl_go (x := (86, [.ref x0, a1, a2, a3, a4, a5], [.ref x0], f, m)) zh_X10_add_85 rfl).trans ((zx_getfield zh_X10_add_86))
theorem ze_X10_add_89 {d : Nat} {f : zF} {m : zM} {x0 y0 : Nat} {a1 a2 a3 a4 a5 : Value} : zex zTb d zqX10_add 89 [.ref x0, a1, a2, a3, a4, a5] [.ref y0] f m = if zco (f x0) 9 1 = true then zex zTb d zqX10_add 93 [.ref x0, a1, a2, a3, a4, a5] [zcf (f x0) 1, .ref y0] f m else none := (zxl_go (x := (90, [.ref x0, a1, a2, a3, a4, a5], [.ref x0, .ref y0], f, m)) zh_X10_add_89 rfl).trans ((zx_getfield zh_X10_add_90))
theorem ze_X10_add_93 {d : Nat} {f : zF} {m : zM} {a0 a1 a2 a4 a5 : Value} {x3 y1 : Int32} {y0 : Nat} : zex zTb d zqX10_add 93 [a0, a1, a2, .int x3, a4, a5] [.int y1, .ref y0] f m = if zri (f y0) 2 y1 = true then zex zTb d zqX10_add 95 [a0, a1, a2, .int x3, a4, a5] [] (zup f y0 (zwi (f y0) 2 y1.toNatClampNeg x3)) m else none := (zxl_go (x := (94, [a0, a1, a2, .int x3, a4, a5], [.int x3, .int y1, .ref y0], f, m)) zh_X10_add_93 rfl).trans ((zx_bastore zh_X10_add_94))
theorem ze_X10_add_95 {d : Nat} {f : zF} {m : zM} {x0 : Nat} {a1 a2 a3 a4 a5 : Value} : zex zTb d zqX10_add 95 [.ref x0, a1, a2, a3, a4, a5] [] f m = if zco (f x0) 9 1 = true then zex zTb d zqX10_add 100 [.ref x0, a1, a2, a3, a4, a5] [zcf (f x0) 1, .ref x0] f m else none := (zxl_go (x := (96, [.ref x0, a1, a2, a3, a4, a5], [.ref x0], f, m)) zh_X10_add_95 rfl).trans ((zxl_go (x := (97, [.ref x0, a1, a2, a3, a4, a5], [.ref x0, .ref x0], f, m)) zh_X10_add_96 rfl).trans ((zx_getfield zh_X10_add_97)))
theorem ze_X10_add_100 {d : Nat} {f : zF} {m : zM} {a0 a1 a2 a3 a4 a5 : Value} {y0 : Nat} {y1 : Int32} : zex zTb d zqX10_add 100 [a0, a1, a2, a3, a4, a5] [.int y1, .ref y0] f m = if (zco (f y0) 9 1 && zok (zfty 9 1) (.int (y1 + (I 1)))) = true then zex zTb d zqX10_add 105 [a0, a1, a2, a3, a4, a5] [] (zup f y0 (zcs (f y0) 1 (.int (y1 + (I 1))))) m else none := (zx_iconst zh_X10_add_100).trans ((zxl_go (x := (102, [a0, a1, a2, a3, a4, a5], [.int (y1 + (I 1)), .ref y0], f, m)) zh_X10_add_101 rfl).trans ((zx_putfield zh_X10_add_102)))
theorem ze_X10_add_105 {d : Nat} {f : zF} {m : zM} {x0 : Nat} {a1 a2 a3 a4 a5 : Value} : zex zTb d zqX10_add 105 [.ref x0, a1, a2, a3, a4, a5] [] f m = if zisc (f x0) 9 = true then zcal zTb (zrun zTb d 121 [.ref x0] f m) d zqX10_add 106 109 [.ref x0, a1, a2, a3, a4, a5] [] else none := (zxl_go (x := (106, [.ref x0, a1, a2, a3, a4, a5], [.ref x0], f, m)) zh_X10_add_105 rfl).trans ((zx_virtual4 zh_X10_add_106 (Nat.le_of_ble_eq_true rfl) rfl rfl (Nat.le_of_ble_eq_true rfl)))
theorem ze_X10_add_109 {d : Nat} {f : zF} {m : zM} {a0 a1 a2 a3 a4 a5 : Value} {y0 : Int32} : zex zTb d zqX10_add 109 [a0, a1, a2, a3, a4, a5] [.int y0] f m = if zc2 .le y0 (I 60) = true then zex zTb d zqX10_add 146 [a0, a1, a2, a3, a4, a5] [] f m else zex zTb d zqX10_add 114 [a0, a1, a2, a3, a4, a5] [] f m := (zx_bipush zh_X10_add_109 (by decide)).trans ((zx_icmp (tgt := 146) zh_X10_add_111 rfl))
theorem ze_X10_add_114 {d : Nat} {f : zF} {m : zM} {x0 : Nat} {a1 a2 a3 a4 a5 : Value} : zex zTb d zqX10_add 114 [.ref x0, a1, a2, a3, a4, a5] [] f m = if zco (f x0) 9 1 = true then zex zTb d zqX10_add 119 [.ref x0, a1, a2, a3, a4, a5] [zcf (f x0) 1, .ref x0] f m else none := (zxl_go (x := (115, [.ref x0, a1, a2, a3, a4, a5], [.ref x0], f, m)) zh_X10_add_114 rfl).trans ((zxl_go (x := (116, [.ref x0, a1, a2, a3, a4, a5], [.ref x0, .ref x0], f, m)) zh_X10_add_115 rfl).trans ((zx_getfield zh_X10_add_116)))
theorem ze_X10_add_119 {d : Nat} {f : zF} {m : zM} {a0 a1 a2 a3 a4 a5 : Value} {y0 : Nat} {y1 : Int32} : zex zTb d zqX10_add 119 [a0, a1, a2, a3, a4, a5] [.int y1, .ref y0] f m = if (zco (f y0) 9 1 && zok (zfty 9 1) (.int (y1 - (I 1)))) = true then zex zTb d zqX10_add 124 [a0, a1, a2, a3, a4, a5] [] (zup f y0 (zcs (f y0) 1 (.int (y1 - (I 1))))) m else none := (zx_iconst zh_X10_add_119).trans ((zxl_go (x := (121, [a0, a1, a2, a3, a4, a5], [.int (y1 - (I 1)), .ref y0], f, m)) zh_X10_add_120 rfl).trans ((zx_putfield zh_X10_add_121)))
theorem ze_X10_add_124 {d : Nat} {f : zF} {m : zM} {x0 : Nat} {a1 a2 a3 a4 a5 : Value} : zex zTb d zqX10_add 124 [.ref x0, a1, a2, a3, a4, a5] [] f m = if zco (f x0) 9 17 = true then zex zTb d zqX10_add 128 [.ref x0, a1, a2, a3, a4, a5] [zcf (f x0) 17] f m else none := (zxl_go (x := (125, [.ref x0, a1, a2, a3, a4, a5], [.ref x0], f, m)) zh_X10_add_124 rfl).trans ((zx_getfield zh_X10_add_125))
theorem ze_X10_add_128 {d : Nat} {f : zF} {m : zM} {x0 : Nat} {a1 a2 a3 a4 a5 : Value} {y0 : Int32} : zex zTb d zqX10_add 128 [.ref x0, a1, a2, a3, a4, a5] [.int y0] f m = if zisc (f x0) 9 = true then zcal zTb (zrun zTb d 122 [.ref x0] f m) d zqX10_add 131 134 [.ref x0, a1, a2, a3, (zclr a4), .int y0] [] else none := (zxl_go (x := (130, [.ref x0, a1, a2, a3, (zclr a4), .int y0], [], f, m)) zh_X10_add_128 rfl).trans ((zxl_go (x := (131, [.ref x0, a1, a2, a3, (zclr a4), .int y0], [.ref x0], f, m)) zh_X10_add_130 rfl).trans ((zx_virtual4 zh_X10_add_131 (Nat.le_of_ble_eq_true rfl) rfl rfl (Nat.le_of_ble_eq_true rfl))))
theorem ze_X10_add_134 {d : Nat} {f : zF} {m : zM} {x0 : Nat} {a1 a2 a3 a4 : Value} {x5 : Int32} : zex zTb d zqX10_add 134 [.ref x0, a1, a2, a3, a4, .int x5] [] f m = if (zco (f x0) 9 17 && zok (zfty 9 17) (.int x5)) = true then zex zTb d zqX10_add 140 [.ref x0, a1, a2, a3, a4, .int x5] [] (zup f x0 (zcs (f x0) 17 (.int x5))) m else none := (zxl_go (x := (135, [.ref x0, a1, a2, a3, a4, .int x5], [.ref x0], f, m)) zh_X10_add_134 rfl).trans ((zxl_go (x := (137, [.ref x0, a1, a2, a3, a4, .int x5], [.int x5, .ref x0], f, m)) zh_X10_add_135 rfl).trans ((zx_putfield zh_X10_add_137)))
theorem ze_X10_add_140 {d : Nat} {f : zF} {m : zM} {x0 : Nat} {a1 a2 a3 a4 a5 : Value} : zex zTb d zqX10_add 140 [.ref x0, a1, a2, a3, a4, a5] [] f m = if zisc (f x0) 9 = true then zcal zTb (zrun zTb d 114 [.ref x0, .int (I 2)] f m) d zqX10_add 142 145 [.ref x0, a1, a2, a3, a4, a5] [] else none := (zxl_go (x := (141, [.ref x0, a1, a2, a3, a4, a5], [.ref x0], f, m)) zh_X10_add_140 rfl).trans ((zx_iconst zh_X10_add_141).trans ((zx_virtual4 zh_X10_add_142 (Nat.le_of_ble_eq_true rfl) rfl rfl (Nat.le_of_ble_eq_true rfl))))
theorem ze_X10_add_145 {d : Nat} {f : zF} {m : zM} {a0 a1 a2 a3 a4 a5 : Value} {y0 : Int32} : zex zTb d zqX10_add 145 [a0, a1, a2, a3, a4, a5] [.int y0] f m = some (.inl (some (.int y0)), f, m) := (zx_iret zh_X10_add_145 (by first | rfl | decide))
theorem ze_X10_add_146 {d : Nat} {f : zF} {m : zM} {x0 : Nat} {a1 a2 a3 a4 a5 : Value} : zex zTb d zqX10_add 146 [.ref x0, a1, a2, a3, a4, a5] [] f m = if zisc (f x0) 9 = true then zcal zTb (zrun zTb d 122 [.ref x0] f m) d zqX10_add 147 150 [.ref x0, a1, a2, a3, a4, a5] [] else none := (zxl_go (x := (147, [.ref x0, a1, a2, a3, a4, a5], [.ref x0], f, m)) zh_X10_add_146 rfl).trans ((zx_virtual4 zh_X10_add_147 (Nat.le_of_ble_eq_true rfl) rfl rfl (Nat.le_of_ble_eq_true rfl)))
theorem ze_X10_add_150 {d : Nat} {f : zF} {m : zM} {x0 : Nat} {a1 a2 a3 a4 a5 : Value} : zex zTb d zqX10_add 150 [.ref x0, a1, a2, a3, a4, a5] [] f m = if zco (f x0) 9 1 = true then zex zTb d zqX10_add 154 [.ref x0, a1, a2, a3, a4, a5] [zcf (f x0) 1] f m else none := (zxl_go (x := (151, [.ref x0, a1, a2, a3, a4, a5], [.ref x0], f, m)) zh_X10_add_150 rfl).trans ((zx_getfield zh_X10_add_151))
theorem ze_X10_add_154 {d : Nat} {f : zF} {m : zM} {a0 a1 a2 a3 a4 a5 : Value} {y0 : Int32} : zex zTb d zqX10_add 154 [a0, a1, a2, a3, a4, a5] [.int y0] f m = some (.inl (some (.int (y0 - (I 1)))), f, m) := (zx_iconst zh_X10_add_154).trans ((zxl_go (x := (156, [a0, a1, a2, a3, a4, a5], [.int (y0 - (I 1))], f, m)) zh_X10_add_155 rfl).trans ((zx_iret zh_X10_add_156 (by first | rfl | decide))))
-- X10_mark
theorem zh_X10_mark_0 : zfe zqX10_mark.i 0 = some (0, .aload_n 0, 1, 0, 0, 0) := rfl
theorem zh_X10_mark_1 : zfe zqX10_mark.i 1 = some (1, .aload_n 0, 1, 0, 0, 0) := rfl
theorem zh_X10_mark_2 : zfe zqX10_mark.i 2 = some (2, .iload_n 1, 1, 0, 0, 0) := rfl
theorem zh_X10_mark_3 : zfe zqX10_mark.i 3 = some (3, .invokevirtual 108, 3, 116, 2, 9) := rfl
theorem zh_X10_mark_6 : zfe zqX10_mark.i 6 = some (6, .ifCond .eq 7, 3, 0, 0, 0) := rfl
theorem zh_X10_mark_9 : zfe zqX10_mark.i 9 = some (9, .iconst 0, 1, 0, 0, 0) := rfl
theorem zh_X10_mark_10 : zfe zqX10_mark.i 10 = some (10, .goto 4, 3, 0, 0, 0) := rfl
theorem zh_X10_mark_13 : zfe zqX10_mark.i 13 = some (13, .iconst 1, 1, 0, 0, 0) := rfl
theorem zh_X10_mark_14 : zfe zqX10_mark.i 14 = some (14, .putfield 67, 3, 9, 0, 0) := rfl
theorem zh_X10_mark_17 : zfe zqX10_mark.i 17 = some (17, .aload_n 0, 1, 0, 0, 0) := rfl
theorem zh_X10_mark_18 : zfe zqX10_mark.i 18 = some (18, .getfield 67, 3, 9, 0, 0) := rfl
theorem zh_X10_mark_21 : zfe zqX10_mark.i 21 = some (21, .ifCond .eq 5, 3, 0, 0, 0) := rfl
theorem zh_X10_mark_24 : zfe zqX10_mark.i 24 = some (24, .iconst 0, 1, 0, 0, 0) := rfl
theorem zh_X10_mark_25 : zfe zqX10_mark.i 25 = some (25, .ireturn, 1, 0, 0, 0) := rfl
theorem zh_X10_mark_26 : zfe zqX10_mark.i 26 = some (26, .aload_n 0, 1, 0, 0, 0) := rfl
theorem zh_X10_mark_27 : zfe zqX10_mark.i 27 = some (27, .getfield 13, 3, 9, 3, 0) := rfl
theorem zh_X10_mark_30 : zfe zqX10_mark.i 30 = some (30, .iload_n 1, 1, 0, 0, 0) := rfl
theorem zh_X10_mark_31 : zfe zqX10_mark.i 31 = some (31, .baload, 1, 0, 0, 0) := rfl
theorem zh_X10_mark_32 : zfe zqX10_mark.i 32 = some (32, .istore_n 3, 1, 0, 0, 0) := rfl
theorem zh_X10_mark_33 : zfe zqX10_mark.i 33 = some (33, .aload_n 0, 1, 0, 0, 0) := rfl
theorem zh_X10_mark_34 : zfe zqX10_mark.i 34 = some (34, .getfield 13, 3, 9, 3, 0) := rfl
theorem zh_X10_mark_37 : zfe zqX10_mark.i 37 = some (37, .iload_n 1, 1, 0, 0, 0) := rfl
theorem zh_X10_mark_38 : zfe zqX10_mark.i 38 = some (38, .iload_n 2, 1, 0, 0, 0) := rfl
theorem zh_X10_mark_39 : zfe zqX10_mark.i 39 = some (39, .bastore, 1, 0, 0, 0) := rfl
theorem zh_X10_mark_40 : zfe zqX10_mark.i 40 = some (40, .aload_n 0, 1, 0, 0, 0) := rfl
theorem zh_X10_mark_41 : zfe zqX10_mark.i 41 = some (41, .iconst 0, 1, 0, 0, 0) := rfl
theorem zh_X10_mark_42 : zfe zqX10_mark.i 42 = some (42, .putfield 97, 3, 9, 17, 0) := rfl
theorem zh_X10_mark_45 : zfe zqX10_mark.i 45 = some (45, .iload_n 3, 1, 0, 0, 0) := rfl
theorem zh_X10_mark_46 : zfe zqX10_mark.i 46 = some (46, .ireturn, 1, 0, 0, 0) := rfl
theorem ze_X10_mark_0 {d : Nat} {f : zF} {m : zM} {x0 : Nat} {x1 : Int32} {a2 a3 : Value} : zex zTb d zqX10_mark 0 [.ref x0, .int x1, a2, a3] [] f m = if zisc (f x0) 9 = true then zcal zTb (zrun zTb d 116 [.ref x0, .int x1] f m) d zqX10_mark 3 6 [.ref x0, .int x1, a2, a3] [.ref x0] else none := (zxl_go (x := (1, [.ref x0, .int x1, a2, a3], [.ref x0], f, m)) zh_X10_mark_0 rfl).trans ((zxl_go (x := (2, [.ref x0, .int x1, a2, a3], [.ref x0, .ref x0], f, m)) zh_X10_mark_1 rfl).trans ((zxl_go (x := (3, [.ref x0, .int x1, a2, a3], [.int x1, .ref x0, .ref x0], f, m)) zh_X10_mark_2 rfl).trans ((zx_virtual4 zh_X10_mark_3 (Nat.le_of_ble_eq_true rfl) rfl rfl (Nat.le_of_ble_eq_true rfl)))))
theorem ze_X10_mark_6 {d : Nat} {f : zF} {m : zM} {a0 a1 a2 a3 : Value} {y0 : Nat} {y1 : Int32} : zex zTb d zqX10_mark 6 [a0, a1, a2, a3] [.int y1, .ref y0] f m = if zc1 .eq y1 = true then zex zTb d zqX10_mark 13 [a0, a1, a2, a3] [.ref y0] f m else zex zTb d zqX10_mark 9 [a0, a1, a2, a3] [.ref y0] f m := (zx_if (tgt := 13) zh_X10_mark_6 rfl)
theorem ze_X10_mark_9 {d : Nat} {f : zF} {m : zM} {a0 a1 a2 a3 : Value} {y0 : Nat} : zex zTb d zqX10_mark 9 [a0, a1, a2, a3] [.ref y0] f m = if (zco (f y0) 9 0 && zok (zfty 9 0) (.int (I 0))) = true then zex zTb d zqX10_mark 17 [a0, a1, a2, a3] [] (zup f y0 (zcs (f y0) 0 (.int (I 0)))) m else none := (zx_iconst zh_X10_mark_9).trans ((zx_goto zh_X10_mark_10 rfl).trans ((zx_putfield zh_X10_mark_14)))
theorem ze_X10_mark_13 {d : Nat} {f : zF} {m : zM} {a0 a1 a2 a3 : Value} {y0 : Nat} : zex zTb d zqX10_mark 13 [a0, a1, a2, a3] [.ref y0] f m = if (zco (f y0) 9 0 && zok (zfty 9 0) (.int (I 1))) = true then zex zTb d zqX10_mark 17 [a0, a1, a2, a3] [] (zup f y0 (zcs (f y0) 0 (.int (I 1)))) m else none := (zx_iconst zh_X10_mark_13).trans ((zx_putfield zh_X10_mark_14))
theorem ze_X10_mark_17 {d : Nat} {f : zF} {m : zM} {x0 : Nat} {a1 a2 a3 : Value} : zex zTb d zqX10_mark 17 [.ref x0, a1, a2, a3] [] f m = if zco (f x0) 9 0 = true then zex zTb d zqX10_mark 21 [.ref x0, a1, a2, a3] [zcf (f x0) 0] f m else none := (zxl_go (x := (18, [.ref x0, a1, a2, a3], [.ref x0], f, m)) zh_X10_mark_17 rfl).trans ((zx_getfield zh_X10_mark_18))
theorem ze_X10_mark_21 {d : Nat} {f : zF} {m : zM} {a0 a1 a2 a3 : Value} {y0 : Int32} : zex zTb d zqX10_mark 21 [a0, a1, a2, a3] [.int y0] f m = if zc1 .eq y0 = true then zex zTb d zqX10_mark 26 [a0, a1, a2, a3] [] f m else zex zTb d zqX10_mark 24 [a0, a1, a2, a3] [] f m := (zx_if (tgt := 26) zh_X10_mark_21 rfl)
theorem ze_X10_mark_24 {d : Nat} {f : zF} {m : zM} {a0 a1 a2 a3 : Value} : zex zTb d zqX10_mark 24 [a0, a1, a2, a3] [] f m = some (.inl (some (.int (I 0))), f, m) := (zx_iconst zh_X10_mark_24).trans ((zx_iret zh_X10_mark_25 (by first | rfl | decide)))
theorem ze_X10_mark_26 {d : Nat} {f : zF} {m : zM} {x0 : Nat} {a1 a2 a3 : Value} : zex zTb d zqX10_mark 26 [.ref x0, a1, a2, a3] [] f m = if zco (f x0) 9 3 = true then zex zTb d zqX10_mark 30 [.ref x0, a1, a2, a3] [zcf (f x0) 3] f m else none := (zxl_go (x := (27, [.ref x0, a1, a2, a3], [.ref x0], f, m)) zh_X10_mark_26 rfl).trans ((zx_getfield zh_X10_mark_27))
theorem ze_X10_mark_30 {d : Nat} {f : zF} {m : zM} {a0 a2 a3 : Value} {x1 : Int32} {y0 : Nat} : zex zTb d zqX10_mark 30 [a0, .int x1, a2, a3] [.ref y0] f m = if zri (f y0) 2 x1 = true then zex zTb d zqX10_mark 32 [a0, .int x1, a2, a3] [.int (zgi (f y0) x1.toNatClampNeg)] f m else none := (zxl_go (x := (31, [a0, .int x1, a2, a3], [.int x1, .ref y0], f, m)) zh_X10_mark_30 rfl).trans ((zx_baload zh_X10_mark_31))
theorem ze_X10_mark_32 {d : Nat} {f : zF} {m : zM} {x0 : Nat} {a1 a2 a3 : Value} {y0 : Int32} : zex zTb d zqX10_mark 32 [.ref x0, a1, a2, a3] [.int y0] f m = if zco (f x0) 9 3 = true then zex zTb d zqX10_mark 37 [.ref x0, a1, (zclr a2), .int y0] [zcf (f x0) 3] f m else none := (zxl_go (x := (33, [.ref x0, a1, (zclr a2), .int y0], [], f, m)) zh_X10_mark_32 rfl).trans ((zxl_go (x := (34, [.ref x0, a1, (zclr a2), .int y0], [.ref x0], f, m)) zh_X10_mark_33 rfl).trans ((zx_getfield zh_X10_mark_34)))
theorem ze_X10_mark_37 {d : Nat} {f : zF} {m : zM} {a0 a3 : Value} {x1 x2 : Int32} {y0 : Nat} : zex zTb d zqX10_mark 37 [a0, .int x1, .int x2, a3] [.ref y0] f m = if zri (f y0) 2 x1 = true then zex zTb d zqX10_mark 40 [a0, .int x1, .int x2, a3] [] (zup f y0 (zwi (f y0) 2 x1.toNatClampNeg x2)) m else none := (zxl_go (x := (38, [a0, .int x1, .int x2, a3], [.int x1, .ref y0], f, m)) zh_X10_mark_37 rfl).trans ((zxl_go (x := (39, [a0, .int x1, .int x2, a3], [.int x2, .int x1, .ref y0], f, m)) zh_X10_mark_38 rfl).trans ((zx_bastore zh_X10_mark_39)))
theorem ze_X10_mark_40 {d : Nat} {f : zF} {m : zM} {x0 : Nat} {a1 a2 a3 : Value} : zex zTb d zqX10_mark 40 [.ref x0, a1, a2, a3] [] f m = if (zco (f x0) 9 17 && zok (zfty 9 17) (.int (I 0))) = true then zex zTb d zqX10_mark 45 [.ref x0, a1, a2, a3] [] (zup f x0 (zcs (f x0) 17 (.int (I 0)))) m else none := (zxl_go (x := (41, [.ref x0, a1, a2, a3], [.ref x0], f, m)) zh_X10_mark_40 rfl).trans ((zx_iconst zh_X10_mark_41).trans ((zx_putfield zh_X10_mark_42)))
theorem ze_X10_mark_45 {d : Nat} {f : zF} {m : zM} {a0 a1 a2 : Value} {x3 : Int32} : zex zTb d zqX10_mark 45 [a0, a1, a2, .int x3] [] f m = if (x3 = 0 ∨ x3 = 1) then some (.inl (some (.int x3)), f, m) else none := (zxl_go (x := (46, [a0, a1, a2, .int x3], [.int x3], f, m)) zh_X10_mark_45 rfl).trans ((zx_bret zh_X10_mark_46 rfl))
-- X10_drop
theorem zh_X10_drop_0 : zfe zqX10_drop.i 0 = some (0, .aload_n 0, 1, 0, 0, 0) := rfl
theorem zh_X10_drop_1 : zfe zqX10_drop.i 1 = some (1, .iconst 0, 1, 0, 0, 0) := rfl
theorem zh_X10_drop_2 : zfe zqX10_drop.i 2 = some (2, .putfield 67, 3, 9, 0, 0) := rfl
theorem zh_X10_drop_5 : zfe zqX10_drop.i 5 = some (5, .aload_n 0, 1, 0, 0, 0) := rfl
theorem zh_X10_drop_6 : zfe zqX10_drop.i 6 = some (6, .getfield 71, 3, 9, 1, 0) := rfl
theorem zh_X10_drop_9 : zfe zqX10_drop.i 9 = some (9, .ifCond .ne 9, 3, 0, 0, 0) := rfl
theorem zh_X10_drop_12 : zfe zqX10_drop.i 12 = some (12, .aload_n 0, 1, 0, 0, 0) := rfl
theorem zh_X10_drop_13 : zfe zqX10_drop.i 13 = some (13, .iconst 1, 1, 0, 0, 0) := rfl
theorem zh_X10_drop_14 : zfe zqX10_drop.i 14 = some (14, .invokevirtual 105, 3, 114, 2, 9) := rfl
theorem zh_X10_drop_17 : zfe zqX10_drop.i 17 = some (17, .ireturn, 1, 0, 0, 0) := rfl
theorem zh_X10_drop_18 : zfe zqX10_drop.i 18 = some (18, .aload_n 0, 1, 0, 0, 0) := rfl
theorem zh_X10_drop_19 : zfe zqX10_drop.i 19 = some (19, .dup, 1, 0, 0, 0) := rfl
theorem zh_X10_drop_20 : zfe zqX10_drop.i 20 = some (20, .getfield 71, 3, 9, 1, 0) := rfl
theorem zh_X10_drop_23 : zfe zqX10_drop.i 23 = some (23, .iconst 1, 1, 0, 0, 0) := rfl
theorem zh_X10_drop_24 : zfe zqX10_drop.i 24 = some (24, .isub, 1, 0, 0, 0) := rfl
theorem zh_X10_drop_25 : zfe zqX10_drop.i 25 = some (25, .putfield 71, 3, 9, 1, 0) := rfl
theorem zh_X10_drop_28 : zfe zqX10_drop.i 28 = some (28, .aload_n 0, 1, 0, 0, 0) := rfl
theorem zh_X10_drop_29 : zfe zqX10_drop.i 29 = some (29, .invokevirtual 64, 3, 122, 1, 9) := rfl
theorem zh_X10_drop_32 : zfe zqX10_drop.i 32 = some (32, .aload_n 0, 1, 0, 0, 0) := rfl
theorem zh_X10_drop_33 : zfe zqX10_drop.i 33 = some (33, .getfield 71, 3, 9, 1, 0) := rfl
theorem zh_X10_drop_36 : zfe zqX10_drop.i 36 = some (36, .ireturn, 1, 0, 0, 0) := rfl
theorem ze_X10_drop_0 {d : Nat} {f : zF} {m : zM} {x0 : Nat} : zex zTb d zqX10_drop 0 [.ref x0] [] f m = if (zco (f x0) 9 0 && zok (zfty 9 0) (.int (I 0))) = true then zex zTb d zqX10_drop 5 [.ref x0] [] (zup f x0 (zcs (f x0) 0 (.int (I 0)))) m else none := (zxl_go (x := (1, [.ref x0], [.ref x0], f, m)) zh_X10_drop_0 rfl).trans ((zx_iconst zh_X10_drop_1).trans ((zx_putfield zh_X10_drop_2)))
theorem ze_X10_drop_5 {d : Nat} {f : zF} {m : zM} {x0 : Nat} : zex zTb d zqX10_drop 5 [.ref x0] [] f m = if zco (f x0) 9 1 = true then zex zTb d zqX10_drop 9 [.ref x0] [zcf (f x0) 1] f m else none := (zxl_go (x := (6, [.ref x0], [.ref x0], f, m)) zh_X10_drop_5 rfl).trans ((zx_getfield zh_X10_drop_6))
theorem ze_X10_drop_9 {d : Nat} {f : zF} {m : zM} {a0 : Value} {y0 : Int32} : zex zTb d zqX10_drop 9 [a0] [.int y0] f m = if zc1 .ne y0 = true then zex zTb d zqX10_drop 18 [a0] [] f m else zex zTb d zqX10_drop 12 [a0] [] f m := (zx_if (tgt := 18) zh_X10_drop_9 rfl)
theorem ze_X10_drop_12 {d : Nat} {f : zF} {m : zM} {x0 : Nat} : zex zTb d zqX10_drop 12 [.ref x0] [] f m = if zisc (f x0) 9 = true then zcal zTb (zrun zTb d 114 [.ref x0, .int (I 1)] f m) d zqX10_drop 14 17 [.ref x0] [] else none := (zxl_go (x := (13, [.ref x0], [.ref x0], f, m)) zh_X10_drop_12 rfl).trans ((zx_iconst zh_X10_drop_13).trans ((zx_virtual4 zh_X10_drop_14 (Nat.le_of_ble_eq_true rfl) rfl rfl (Nat.le_of_ble_eq_true rfl))))
theorem ze_X10_drop_17 {d : Nat} {f : zF} {m : zM} {a0 : Value} {y0 : Int32} : zex zTb d zqX10_drop 17 [a0] [.int y0] f m = some (.inl (some (.int y0)), f, m) := (zx_iret zh_X10_drop_17 (by first | rfl | decide))
theorem ze_X10_drop_18 {d : Nat} {f : zF} {m : zM} {x0 : Nat} : zex zTb d zqX10_drop 18 [.ref x0] [] f m = if zco (f x0) 9 1 = true then zex zTb d zqX10_drop 23 [.ref x0] [zcf (f x0) 1, .ref x0] f m else none := (zxl_go (x := (19, [.ref x0], [.ref x0], f, m)) zh_X10_drop_18 rfl).trans ((zxl_go (x := (20, [.ref x0], [.ref x0, .ref x0], f, m)) zh_X10_drop_19 rfl).trans ((zx_getfield zh_X10_drop_20)))
theorem ze_X10_drop_23 {d : Nat} {f : zF} {m : zM} {a0 : Value} {y0 : Nat} {y1 : Int32} : zex zTb d zqX10_drop 23 [a0] [.int y1, .ref y0] f m = if (zco (f y0) 9 1 && zok (zfty 9 1) (.int (y1 - (I 1)))) = true then zex zTb d zqX10_drop 28 [a0] [] (zup f y0 (zcs (f y0) 1 (.int (y1 - (I 1))))) m else none := (zx_iconst zh_X10_drop_23).trans ((zxl_go (x := (25, [a0], [.int (y1 - (I 1)), .ref y0], f, m)) zh_X10_drop_24 rfl).trans ((zx_putfield zh_X10_drop_25)))
theorem ze_X10_drop_28 {d : Nat} {f : zF} {m : zM} {x0 : Nat} : zex zTb d zqX10_drop 28 [.ref x0] [] f m = if zisc (f x0) 9 = true then zcal zTb (zrun zTb d 122 [.ref x0] f m) d zqX10_drop 29 32 [.ref x0] [] else none := (zxl_go (x := (29, [.ref x0], [.ref x0], f, m)) zh_X10_drop_28 rfl).trans ((zx_virtual4 zh_X10_drop_29 (Nat.le_of_ble_eq_true rfl) rfl rfl (Nat.le_of_ble_eq_true rfl)))
theorem ze_X10_drop_32 {d : Nat} {f : zF} {m : zM} {x0 : Nat} : zex zTb d zqX10_drop 32 [.ref x0] [] f m = if zco (f x0) 9 1 = true then zex zTb d zqX10_drop 36 [.ref x0] [zcf (f x0) 1] f m else none := (zxl_go (x := (33, [.ref x0], [.ref x0], f, m)) zh_X10_drop_32 rfl).trans ((zx_getfield zh_X10_drop_33))
theorem ze_X10_drop_36 {d : Nat} {f : zF} {m : zM} {a0 : Value} {y0 : Int32} : zex zTb d zqX10_drop 36 [a0] [.int y0] f m = some (.inl (some (.int y0)), f, m) := (zx_iret zh_X10_drop_36 (by first | rfl | decide))
-- X10_setCost
theorem zh_X10_setCost_0 : zfe zqX10_setCost.i 0 = some (0, .aload_n 0, 1, 0, 0, 0) := rfl
theorem zh_X10_setCost_1 : zfe zqX10_setCost.i 1 = some (1, .iconst 0, 1, 0, 0, 0) := rfl
theorem zh_X10_setCost_2 : zfe zqX10_setCost.i 2 = some (2, .putfield 67, 3, 9, 0, 0) := rfl
theorem zh_X10_setCost_5 : zfe zqX10_setCost.i 5 = some (5, .iload_n 1, 1, 0, 0, 0) := rfl
theorem zh_X10_setCost_6 : zfe zqX10_setCost.i 6 = some (6, .iconst 0, 1, 0, 0, 0) := rfl
theorem zh_X10_setCost_7 : zfe zqX10_setCost.i 7 = some (7, .bipush 6, 2, 0, 0, 0) := rfl
theorem zh_X10_setCost_9 : zfe zqX10_setCost.i 9 = some (9, .invokestatic 74, 3, 115, 3, 0) := rfl
theorem zh_X10_setCost_12 : zfe zqX10_setCost.i 12 = some (12, .ifCond .ne 9, 3, 0, 0, 0) := rfl
theorem zh_X10_setCost_15 : zfe zqX10_setCost.i 15 = some (15, .aload_n 0, 1, 0, 0, 0) := rfl
theorem zh_X10_setCost_16 : zfe zqX10_setCost.i 16 = some (16, .iconst 1, 1, 0, 0, 0) := rfl
theorem zh_X10_setCost_17 : zfe zqX10_setCost.i 17 = some (17, .invokevirtual 105, 3, 114, 2, 9) := rfl
theorem zh_X10_setCost_20 : zfe zqX10_setCost.i 20 = some (20, .ireturn, 1, 0, 0, 0) := rfl
theorem zh_X10_setCost_21 : zfe zqX10_setCost.i 21 = some (21, .iload_n 2, 1, 0, 0, 0) := rfl
theorem zh_X10_setCost_22 : zfe zqX10_setCost.i 22 = some (22, .iconst 1, 1, 0, 0, 0) := rfl
theorem zh_X10_setCost_23 : zfe zqX10_setCost.i 23 = some (23, .bipush 9, 2, 0, 0, 0) := rfl
theorem zh_X10_setCost_25 : zfe zqX10_setCost.i 25 = some (25, .invokestatic 74, 3, 115, 3, 0) := rfl
theorem zh_X10_setCost_28 : zfe zqX10_setCost.i 28 = some (28, .ifCond .ne 9, 3, 0, 0, 0) := rfl
theorem zh_X10_setCost_31 : zfe zqX10_setCost.i 31 = some (31, .aload_n 0, 1, 0, 0, 0) := rfl
theorem zh_X10_setCost_32 : zfe zqX10_setCost.i 32 = some (32, .iconst 2, 1, 0, 0, 0) := rfl
theorem zh_X10_setCost_33 : zfe zqX10_setCost.i 33 = some (33, .invokevirtual 105, 3, 114, 2, 9) := rfl
theorem zh_X10_setCost_36 : zfe zqX10_setCost.i 36 = some (36, .ireturn, 1, 0, 0, 0) := rfl
theorem zh_X10_setCost_37 : zfe zqX10_setCost.i 37 = some (37, .aload_n 0, 1, 0, 0, 0) := rfl
theorem zh_X10_setCost_38 : zfe zqX10_setCost.i 38 = some (38, .getfield 17, 3, 9, 4, 0) := rfl
theorem zh_X10_setCost_41 : zfe zqX10_setCost.i 41 = some (41, .iload_n 1, 1, 0, 0, 0) := rfl
theorem zh_X10_setCost_42 : zfe zqX10_setCost.i 42 = some (42, .iaload, 1, 0, 0, 0) := rfl
theorem zh_X10_setCost_43 : zfe zqX10_setCost.i 43 = some (43, .istore_n 3, 1, 0, 0, 0) := rfl
theorem zh_X10_setCost_44 : zfe zqX10_setCost.i 44 = some (44, .aload_n 0, 1, 0, 0, 0) := rfl
theorem zh_X10_setCost_45 : zfe zqX10_setCost.i 45 = some (45, .getfield 17, 3, 9, 4, 0) := rfl
theorem zh_X10_setCost_48 : zfe zqX10_setCost.i 48 = some (48, .iload_n 1, 1, 0, 0, 0) := rfl
theorem zh_X10_setCost_49 : zfe zqX10_setCost.i 49 = some (49, .iload_n 2, 1, 0, 0, 0) := rfl
theorem zh_X10_setCost_50 : zfe zqX10_setCost.i 50 = some (50, .iastore, 1, 0, 0, 0) := rfl
theorem zh_X10_setCost_51 : zfe zqX10_setCost.i 51 = some (51, .aload_n 0, 1, 0, 0, 0) := rfl
theorem zh_X10_setCost_52 : zfe zqX10_setCost.i 52 = some (52, .iconst 0, 1, 0, 0, 0) := rfl
theorem zh_X10_setCost_53 : zfe zqX10_setCost.i 53 = some (53, .putfield 97, 3, 9, 17, 0) := rfl
theorem zh_X10_setCost_56 : zfe zqX10_setCost.i 56 = some (56, .iload_n 3, 1, 0, 0, 0) := rfl
theorem zh_X10_setCost_57 : zfe zqX10_setCost.i 57 = some (57, .ireturn, 1, 0, 0, 0) := rfl
theorem ze_X10_setCost_0 {d : Nat} {f : zF} {m : zM} {x0 : Nat} {a1 a2 a3 : Value} : zex zTb d zqX10_setCost 0 [.ref x0, a1, a2, a3] [] f m = if (zco (f x0) 9 0 && zok (zfty 9 0) (.int (I 0))) = true then zex zTb d zqX10_setCost 5 [.ref x0, a1, a2, a3] [] (zup f x0 (zcs (f x0) 0 (.int (I 0)))) m else none := (zxl_go (x := (1, [.ref x0, a1, a2, a3], [.ref x0], f, m)) zh_X10_setCost_0 rfl).trans ((zx_iconst zh_X10_setCost_1).trans ((zx_putfield zh_X10_setCost_2)))
theorem ze_X10_setCost_5 {d : Nat} {f : zF} {m : zM} {a0 a2 a3 : Value} {x1 : Int32} : zex zTb d zqX10_setCost 5 [a0, .int x1, a2, a3] [] f m = zcal zTb (zrun zTb d 115 [.int x1, .int (I 0), .int (I 6)] f m) d zqX10_setCost 9 12 [a0, .int x1, a2, a3] [] := (zxl_go (x := (6, [a0, .int x1, a2, a3], [.int x1], f, m)) zh_X10_setCost_5 rfl).trans ((zx_iconst zh_X10_setCost_6).trans ((zx_bipush zh_X10_setCost_7 (by decide)).trans (((zx_static zh_X10_setCost_9 (Nat.le_of_ble_eq_true rfl) rfl rfl).trans (if_pos (Nat.le_of_ble_eq_true rfl))))))
theorem ze_X10_setCost_12 {d : Nat} {f : zF} {m : zM} {a0 a1 a2 a3 : Value} {y0 : Int32} : zex zTb d zqX10_setCost 12 [a0, a1, a2, a3] [.int y0] f m = if zc1 .ne y0 = true then zex zTb d zqX10_setCost 21 [a0, a1, a2, a3] [] f m else zex zTb d zqX10_setCost 15 [a0, a1, a2, a3] [] f m := (zx_if (tgt := 21) zh_X10_setCost_12 rfl)
theorem ze_X10_setCost_15 {d : Nat} {f : zF} {m : zM} {x0 : Nat} {a1 a2 a3 : Value} : zex zTb d zqX10_setCost 15 [.ref x0, a1, a2, a3] [] f m = if zisc (f x0) 9 = true then zcal zTb (zrun zTb d 114 [.ref x0, .int (I 1)] f m) d zqX10_setCost 17 20 [.ref x0, a1, a2, a3] [] else none := (zxl_go (x := (16, [.ref x0, a1, a2, a3], [.ref x0], f, m)) zh_X10_setCost_15 rfl).trans ((zx_iconst zh_X10_setCost_16).trans ((zx_virtual4 zh_X10_setCost_17 (Nat.le_of_ble_eq_true rfl) rfl rfl (Nat.le_of_ble_eq_true rfl))))
theorem ze_X10_setCost_20 {d : Nat} {f : zF} {m : zM} {a0 a1 a2 a3 : Value} {y0 : Int32} : zex zTb d zqX10_setCost 20 [a0, a1, a2, a3] [.int y0] f m = some (.inl (some (.int y0)), f, m) := (zx_iret zh_X10_setCost_20 (by first | rfl | decide))
theorem ze_X10_setCost_21 {d : Nat} {f : zF} {m : zM} {a0 a1 a3 : Value} {x2 : Int32} : zex zTb d zqX10_setCost 21 [a0, a1, .int x2, a3] [] f m = zcal zTb (zrun zTb d 115 [.int x2, .int (I 1), .int (I 9)] f m) d zqX10_setCost 25 28 [a0, a1, .int x2, a3] [] := (zxl_go (x := (22, [a0, a1, .int x2, a3], [.int x2], f, m)) zh_X10_setCost_21 rfl).trans ((zx_iconst zh_X10_setCost_22).trans ((zx_bipush zh_X10_setCost_23 (by decide)).trans (((zx_static zh_X10_setCost_25 (Nat.le_of_ble_eq_true rfl) rfl rfl).trans (if_pos (Nat.le_of_ble_eq_true rfl))))))
theorem ze_X10_setCost_28 {d : Nat} {f : zF} {m : zM} {a0 a1 a2 a3 : Value} {y0 : Int32} : zex zTb d zqX10_setCost 28 [a0, a1, a2, a3] [.int y0] f m = if zc1 .ne y0 = true then zex zTb d zqX10_setCost 37 [a0, a1, a2, a3] [] f m else zex zTb d zqX10_setCost 31 [a0, a1, a2, a3] [] f m := (zx_if (tgt := 37) zh_X10_setCost_28 rfl)
theorem ze_X10_setCost_31 {d : Nat} {f : zF} {m : zM} {x0 : Nat} {a1 a2 a3 : Value} : zex zTb d zqX10_setCost 31 [.ref x0, a1, a2, a3] [] f m = if zisc (f x0) 9 = true then zcal zTb (zrun zTb d 114 [.ref x0, .int (I 2)] f m) d zqX10_setCost 33 36 [.ref x0, a1, a2, a3] [] else none := (zxl_go (x := (32, [.ref x0, a1, a2, a3], [.ref x0], f, m)) zh_X10_setCost_31 rfl).trans ((zx_iconst zh_X10_setCost_32).trans ((zx_virtual4 zh_X10_setCost_33 (Nat.le_of_ble_eq_true rfl) rfl rfl (Nat.le_of_ble_eq_true rfl))))
theorem ze_X10_setCost_36 {d : Nat} {f : zF} {m : zM} {a0 a1 a2 a3 : Value} {y0 : Int32} : zex zTb d zqX10_setCost 36 [a0, a1, a2, a3] [.int y0] f m = some (.inl (some (.int y0)), f, m) := (zx_iret zh_X10_setCost_36 (by first | rfl | decide))
theorem ze_X10_setCost_37 {d : Nat} {f : zF} {m : zM} {x0 : Nat} {a1 a2 a3 : Value} : zex zTb d zqX10_setCost 37 [.ref x0, a1, a2, a3] [] f m = if zco (f x0) 9 4 = true then zex zTb d zqX10_setCost 41 [.ref x0, a1, a2, a3] [zcf (f x0) 4] f m else none := (zxl_go (x := (38, [.ref x0, a1, a2, a3], [.ref x0], f, m)) zh_X10_setCost_37 rfl).trans ((zx_getfield zh_X10_setCost_38))
theorem ze_X10_setCost_41 {d : Nat} {f : zF} {m : zM} {a0 a2 a3 : Value} {x1 : Int32} {y0 : Nat} : zex zTb d zqX10_setCost 41 [a0, .int x1, a2, a3] [.ref y0] f m = if zr8 (f y0) x1 = true then zex zTb d zqX10_setCost 43 [a0, .int x1, a2, a3] [.int (zgi (f y0) x1.toNatClampNeg)] f m else none := (zxl_go (x := (42, [a0, .int x1, a2, a3], [.int x1, .ref y0], f, m)) zh_X10_setCost_41 rfl).trans ((zx_iaload zh_X10_setCost_42))
theorem ze_X10_setCost_43 {d : Nat} {f : zF} {m : zM} {x0 : Nat} {a1 a2 a3 : Value} {y0 : Int32} : zex zTb d zqX10_setCost 43 [.ref x0, a1, a2, a3] [.int y0] f m = if zco (f x0) 9 4 = true then zex zTb d zqX10_setCost 48 [.ref x0, a1, (zclr a2), .int y0] [zcf (f x0) 4] f m else none := (zxl_go (x := (44, [.ref x0, a1, (zclr a2), .int y0], [], f, m)) zh_X10_setCost_43 rfl).trans ((zxl_go (x := (45, [.ref x0, a1, (zclr a2), .int y0], [.ref x0], f, m)) zh_X10_setCost_44 rfl).trans ((zx_getfield zh_X10_setCost_45)))
theorem ze_X10_setCost_48 {d : Nat} {f : zF} {m : zM} {a0 a3 : Value} {x1 x2 : Int32} {y0 : Nat} : zex zTb d zqX10_setCost 48 [a0, .int x1, .int x2, a3] [.ref y0] f m = if zri (f y0) 0 x1 = true then zex zTb d zqX10_setCost 51 [a0, .int x1, .int x2, a3] [] (zup f y0 (zwi (f y0) 0 x1.toNatClampNeg x2)) m else none := (zxl_go (x := (49, [a0, .int x1, .int x2, a3], [.int x1, .ref y0], f, m)) zh_X10_setCost_48 rfl).trans ((zxl_go (x := (50, [a0, .int x1, .int x2, a3], [.int x2, .int x1, .ref y0], f, m)) zh_X10_setCost_49 rfl).trans ((zx_iastore zh_X10_setCost_50)))
theorem ze_X10_setCost_51 {d : Nat} {f : zF} {m : zM} {x0 : Nat} {a1 a2 a3 : Value} : zex zTb d zqX10_setCost 51 [.ref x0, a1, a2, a3] [] f m = if (zco (f x0) 9 17 && zok (zfty 9 17) (.int (I 0))) = true then zex zTb d zqX10_setCost 56 [.ref x0, a1, a2, a3] [] (zup f x0 (zcs (f x0) 17 (.int (I 0)))) m else none := (zxl_go (x := (52, [.ref x0, a1, a2, a3], [.ref x0], f, m)) zh_X10_setCost_51 rfl).trans ((zx_iconst zh_X10_setCost_52).trans ((zx_putfield zh_X10_setCost_53)))
theorem ze_X10_setCost_56 {d : Nat} {f : zF} {m : zM} {a0 a1 a2 : Value} {x3 : Int32} : zex zTb d zqX10_setCost 56 [a0, a1, a2, .int x3] [] f m = some (.inl (some (.int x3)), f, m) := (zxl_go (x := (57, [a0, a1, a2, .int x3], [.int x3], f, m)) zh_X10_setCost_56 rfl).trans ((zx_iret zh_X10_setCost_57 (by first | rfl | decide)))
-- X10_exampleCount
theorem zh_X10_exampleCount_0 : zfe zqX10_exampleCount.i 0 = some (0, .aload_n 0, 1, 0, 0, 0) := rfl
theorem zh_X10_exampleCount_1 : zfe zqX10_exampleCount.i 1 = some (1, .iconst 0, 1, 0, 0, 0) := rfl
theorem zh_X10_exampleCount_2 : zfe zqX10_exampleCount.i 2 = some (2, .putfield 67, 3, 9, 0, 0) := rfl
theorem zh_X10_exampleCount_5 : zfe zqX10_exampleCount.i 5 = some (5, .aload_n 0, 1, 0, 0, 0) := rfl
theorem zh_X10_exampleCount_6 : zfe zqX10_exampleCount.i 6 = some (6, .getfield 71, 3, 9, 1, 0) := rfl
theorem zh_X10_exampleCount_9 : zfe zqX10_exampleCount.i 9 = some (9, .ireturn, 1, 0, 0, 0) := rfl
theorem ze_X10_exampleCount_0 {d : Nat} {f : zF} {m : zM} {x0 : Nat} : zex zTb d zqX10_exampleCount 0 [.ref x0] [] f m = if (zco (f x0) 9 0 && zok (zfty 9 0) (.int (I 0))) = true then zex zTb d zqX10_exampleCount 5 [.ref x0] [] (zup f x0 (zcs (f x0) 0 (.int (I 0)))) m else none := (zxl_go (x := (1, [.ref x0], [.ref x0], f, m)) zh_X10_exampleCount_0 rfl).trans ((zx_iconst zh_X10_exampleCount_1).trans ((zx_putfield zh_X10_exampleCount_2)))
theorem ze_X10_exampleCount_5 {d : Nat} {f : zF} {m : zM} {x0 : Nat} : zex zTb d zqX10_exampleCount 5 [.ref x0] [] f m = if zco (f x0) 9 1 = true then zex zTb d zqX10_exampleCount 9 [.ref x0] [zcf (f x0) 1] f m else none := (zxl_go (x := (6, [.ref x0], [.ref x0], f, m)) zh_X10_exampleCount_5 rfl).trans ((zx_getfield zh_X10_exampleCount_6))
theorem ze_X10_exampleCount_9 {d : Nat} {f : zF} {m : zM} {a0 : Value} {y0 : Int32} : zex zTb d zqX10_exampleCount 9 [a0] [.int y0] f m = some (.inl (some (.int y0)), f, m) := (zx_iret zh_X10_exampleCount_9 (by first | rfl | decide))
-- X10_example
theorem zh_X10_example_0 : zfe zqX10_example.i 0 = some (0, .aload_n 0, 1, 0, 0, 0) := rfl
theorem zh_X10_example_1 : zfe zqX10_example.i 1 = some (1, .aload_n 0, 1, 0, 0, 0) := rfl
theorem zh_X10_example_2 : zfe zqX10_example.i 2 = some (2, .iload_n 1, 1, 0, 0, 0) := rfl
theorem zh_X10_example_3 : zfe zqX10_example.i 3 = some (3, .invokevirtual 108, 3, 116, 2, 9) := rfl
theorem zh_X10_example_6 : zfe zqX10_example.i 6 = some (6, .ifCond .eq 7, 3, 0, 0, 0) := rfl
theorem zh_X10_example_9 : zfe zqX10_example.i 9 = some (9, .iconst 0, 1, 0, 0, 0) := rfl
theorem zh_X10_example_10 : zfe zqX10_example.i 10 = some (10, .goto 4, 3, 0, 0, 0) := rfl
theorem zh_X10_example_13 : zfe zqX10_example.i 13 = some (13, .iconst 1, 1, 0, 0, 0) := rfl
theorem zh_X10_example_14 : zfe zqX10_example.i 14 = some (14, .putfield 67, 3, 9, 0, 0) := rfl
theorem zh_X10_example_17 : zfe zqX10_example.i 17 = some (17, .aload_n 0, 1, 0, 0, 0) := rfl
theorem zh_X10_example_18 : zfe zqX10_example.i 18 = some (18, .getfield 67, 3, 9, 0, 0) := rfl
theorem zh_X10_example_21 : zfe zqX10_example.i 21 = some (21, .ifCond .ne 15, 3, 0, 0, 0) := rfl
theorem zh_X10_example_24 : zfe zqX10_example.i 24 = some (24, .aload_n 0, 1, 0, 0, 0) := rfl
theorem zh_X10_example_25 : zfe zqX10_example.i 25 = some (25, .getfield 9, 3, 9, 2, 0) := rfl
theorem zh_X10_example_28 : zfe zqX10_example.i 28 = some (28, .iload_n 1, 1, 0, 0, 0) := rfl
theorem zh_X10_example_29 : zfe zqX10_example.i 29 = some (29, .iaload, 1, 0, 0, 0) := rfl
theorem zh_X10_example_30 : zfe zqX10_example.i 30 = some (30, .invokestatic 112, 3, 118, 1, 0) := rfl
theorem zh_X10_example_33 : zfe zqX10_example.i 33 = some (33, .goto 4, 3, 0, 0, 0) := rfl
theorem zh_X10_example_36 : zfe zqX10_example.i 36 = some (36, .lconst 0, 1, 0, 0, 0) := rfl
theorem zh_X10_example_37 : zfe zqX10_example.i 37 = some (37, .lreturn, 1, 0, 0, 0) := rfl
theorem ze_X10_example_0 {d : Nat} {f : zF} {m : zM} {x0 : Nat} {x1 : Int32} : zex zTb d zqX10_example 0 [.ref x0, .int x1] [] f m = if zisc (f x0) 9 = true then zcal zTb (zrun zTb d 116 [.ref x0, .int x1] f m) d zqX10_example 3 6 [.ref x0, .int x1] [.ref x0] else none := (zxl_go (x := (1, [.ref x0, .int x1], [.ref x0], f, m)) zh_X10_example_0 rfl).trans ((zxl_go (x := (2, [.ref x0, .int x1], [.ref x0, .ref x0], f, m)) zh_X10_example_1 rfl).trans ((zxl_go (x := (3, [.ref x0, .int x1], [.int x1, .ref x0, .ref x0], f, m)) zh_X10_example_2 rfl).trans ((zx_virtual4 zh_X10_example_3 (Nat.le_of_ble_eq_true rfl) rfl rfl (Nat.le_of_ble_eq_true rfl)))))
theorem ze_X10_example_6 {d : Nat} {f : zF} {m : zM} {a0 a1 : Value} {y0 : Nat} {y1 : Int32} : zex zTb d zqX10_example 6 [a0, a1] [.int y1, .ref y0] f m = if zc1 .eq y1 = true then zex zTb d zqX10_example 13 [a0, a1] [.ref y0] f m else zex zTb d zqX10_example 9 [a0, a1] [.ref y0] f m := (zx_if (tgt := 13) zh_X10_example_6 rfl)
theorem ze_X10_example_9 {d : Nat} {f : zF} {m : zM} {a0 a1 : Value} {y0 : Nat} : zex zTb d zqX10_example 9 [a0, a1] [.ref y0] f m = if (zco (f y0) 9 0 && zok (zfty 9 0) (.int (I 0))) = true then zex zTb d zqX10_example 17 [a0, a1] [] (zup f y0 (zcs (f y0) 0 (.int (I 0)))) m else none := (zx_iconst zh_X10_example_9).trans ((zx_goto zh_X10_example_10 rfl).trans ((zx_putfield zh_X10_example_14)))
theorem ze_X10_example_13 {d : Nat} {f : zF} {m : zM} {a0 a1 : Value} {y0 : Nat} : zex zTb d zqX10_example 13 [a0, a1] [.ref y0] f m = if (zco (f y0) 9 0 && zok (zfty 9 0) (.int (I 1))) = true then zex zTb d zqX10_example 17 [a0, a1] [] (zup f y0 (zcs (f y0) 0 (.int (I 1)))) m else none := (zx_iconst zh_X10_example_13).trans ((zx_putfield zh_X10_example_14))
theorem ze_X10_example_17 {d : Nat} {f : zF} {m : zM} {x0 : Nat} {a1 : Value} : zex zTb d zqX10_example 17 [.ref x0, a1] [] f m = if zco (f x0) 9 0 = true then zex zTb d zqX10_example 21 [.ref x0, a1] [zcf (f x0) 0] f m else none := (zxl_go (x := (18, [.ref x0, a1], [.ref x0], f, m)) zh_X10_example_17 rfl).trans ((zx_getfield zh_X10_example_18))
theorem ze_X10_example_21 {d : Nat} {f : zF} {m : zM} {a0 a1 : Value} {y0 : Int32} : zex zTb d zqX10_example 21 [a0, a1] [.int y0] f m = if zc1 .ne y0 = true then zex zTb d zqX10_example 36 [a0, a1] [] f m else zex zTb d zqX10_example 24 [a0, a1] [] f m := (zx_if (tgt := 36) zh_X10_example_21 rfl)
theorem ze_X10_example_24 {d : Nat} {f : zF} {m : zM} {x0 : Nat} {a1 : Value} : zex zTb d zqX10_example 24 [.ref x0, a1] [] f m = if zco (f x0) 9 2 = true then zex zTb d zqX10_example 28 [.ref x0, a1] [zcf (f x0) 2] f m else none := (zxl_go (x := (25, [.ref x0, a1], [.ref x0], f, m)) zh_X10_example_24 rfl).trans ((zx_getfield zh_X10_example_25))
theorem ze_X10_example_28 {d : Nat} {f : zF} {m : zM} {a0 : Value} {x1 : Int32} {y0 : Nat} : zex zTb d zqX10_example 28 [a0, .int x1] [.ref y0] f m = if zr8 (f y0) x1 = true then zex zTb d zqX10_example 30 [a0, .int x1] [.int (zgi (f y0) x1.toNatClampNeg)] f m else none := (zxl_go (x := (29, [a0, .int x1], [.int x1, .ref y0], f, m)) zh_X10_example_28 rfl).trans ((zx_iaload zh_X10_example_29))
theorem ze_X10_example_30 {d : Nat} {f : zF} {m : zM} {a0 a1 : Value} {y0 : Int32} : zex zTb d zqX10_example 30 [a0, a1] [.int y0] f m = zcal zTb (zrun zTb d 118 [.int y0] f m) d zqX10_example 30 33 [a0, a1] [] := ((zx_static zh_X10_example_30 (Nat.le_of_ble_eq_true rfl) rfl rfl).trans (if_pos (Nat.le_of_ble_eq_true rfl)))
theorem ze_X10_example_33 {d : Nat} {f : zF} {m : zM} {a0 a1 : Value} {y0 : Int64} : zex zTb d zqX10_example 33 [a0, a1] [.long y0] f m = some (.inl (some (.long y0)), f, m) := (zx_goto zh_X10_example_33 rfl).trans ((zx_lret zh_X10_example_37 rfl))
theorem ze_X10_example_36 {d : Nat} {f : zF} {m : zM} {a0 a1 : Value} : zex zTb d zqX10_example 36 [a0, a1] [] f m = some (.inl (some (.long (J 0))), f, m) := (zx_lconst (v := 0) zh_X10_example_36 (by decide)).trans ((zx_lret zh_X10_example_37 rfl))
-- X10_isGood
theorem zh_X10_isGood_0 : zfe zqX10_isGood.i 0 = some (0, .aload_n 0, 1, 0, 0, 0) := rfl
theorem zh_X10_isGood_1 : zfe zqX10_isGood.i 1 = some (1, .aload_n 0, 1, 0, 0, 0) := rfl
theorem zh_X10_isGood_2 : zfe zqX10_isGood.i 2 = some (2, .iload_n 1, 1, 0, 0, 0) := rfl
theorem zh_X10_isGood_3 : zfe zqX10_isGood.i 3 = some (3, .invokevirtual 108, 3, 116, 2, 9) := rfl
theorem zh_X10_isGood_6 : zfe zqX10_isGood.i 6 = some (6, .ifCond .eq 7, 3, 0, 0, 0) := rfl
theorem zh_X10_isGood_9 : zfe zqX10_isGood.i 9 = some (9, .iconst 0, 1, 0, 0, 0) := rfl
theorem zh_X10_isGood_10 : zfe zqX10_isGood.i 10 = some (10, .goto 4, 3, 0, 0, 0) := rfl
theorem zh_X10_isGood_13 : zfe zqX10_isGood.i 13 = some (13, .iconst 1, 1, 0, 0, 0) := rfl
theorem zh_X10_isGood_14 : zfe zqX10_isGood.i 14 = some (14, .putfield 67, 3, 9, 0, 0) := rfl
theorem zh_X10_isGood_17 : zfe zqX10_isGood.i 17 = some (17, .aload_n 0, 1, 0, 0, 0) := rfl
theorem zh_X10_isGood_18 : zfe zqX10_isGood.i 18 = some (18, .getfield 67, 3, 9, 0, 0) := rfl
theorem zh_X10_isGood_21 : zfe zqX10_isGood.i 21 = some (21, .ifCond .ne 16, 3, 0, 0, 0) := rfl
theorem zh_X10_isGood_24 : zfe zqX10_isGood.i 24 = some (24, .aload_n 0, 1, 0, 0, 0) := rfl
theorem zh_X10_isGood_25 : zfe zqX10_isGood.i 25 = some (25, .getfield 13, 3, 9, 3, 0) := rfl
theorem zh_X10_isGood_28 : zfe zqX10_isGood.i 28 = some (28, .iload_n 1, 1, 0, 0, 0) := rfl
theorem zh_X10_isGood_29 : zfe zqX10_isGood.i 29 = some (29, .baload, 1, 0, 0, 0) := rfl
theorem zh_X10_isGood_30 : zfe zqX10_isGood.i 30 = some (30, .ifCond .eq 7, 3, 0, 0, 0) := rfl
theorem zh_X10_isGood_33 : zfe zqX10_isGood.i 33 = some (33, .iconst 1, 1, 0, 0, 0) := rfl
theorem zh_X10_isGood_34 : zfe zqX10_isGood.i 34 = some (34, .goto 4, 3, 0, 0, 0) := rfl
theorem zh_X10_isGood_37 : zfe zqX10_isGood.i 37 = some (37, .iconst 0, 1, 0, 0, 0) := rfl
theorem zh_X10_isGood_38 : zfe zqX10_isGood.i 38 = some (38, .ireturn, 1, 0, 0, 0) := rfl
theorem ze_X10_isGood_0 {d : Nat} {f : zF} {m : zM} {x0 : Nat} {x1 : Int32} : zex zTb d zqX10_isGood 0 [.ref x0, .int x1] [] f m = if zisc (f x0) 9 = true then zcal zTb (zrun zTb d 116 [.ref x0, .int x1] f m) d zqX10_isGood 3 6 [.ref x0, .int x1] [.ref x0] else none := (zxl_go (x := (1, [.ref x0, .int x1], [.ref x0], f, m)) zh_X10_isGood_0 rfl).trans ((zxl_go (x := (2, [.ref x0, .int x1], [.ref x0, .ref x0], f, m)) zh_X10_isGood_1 rfl).trans ((zxl_go (x := (3, [.ref x0, .int x1], [.int x1, .ref x0, .ref x0], f, m)) zh_X10_isGood_2 rfl).trans ((zx_virtual4 zh_X10_isGood_3 (Nat.le_of_ble_eq_true rfl) rfl rfl (Nat.le_of_ble_eq_true rfl)))))
theorem ze_X10_isGood_6 {d : Nat} {f : zF} {m : zM} {a0 a1 : Value} {y0 : Nat} {y1 : Int32} : zex zTb d zqX10_isGood 6 [a0, a1] [.int y1, .ref y0] f m = if zc1 .eq y1 = true then zex zTb d zqX10_isGood 13 [a0, a1] [.ref y0] f m else zex zTb d zqX10_isGood 9 [a0, a1] [.ref y0] f m := (zx_if (tgt := 13) zh_X10_isGood_6 rfl)
theorem ze_X10_isGood_9 {d : Nat} {f : zF} {m : zM} {a0 a1 : Value} {y0 : Nat} : zex zTb d zqX10_isGood 9 [a0, a1] [.ref y0] f m = if (zco (f y0) 9 0 && zok (zfty 9 0) (.int (I 0))) = true then zex zTb d zqX10_isGood 17 [a0, a1] [] (zup f y0 (zcs (f y0) 0 (.int (I 0)))) m else none := (zx_iconst zh_X10_isGood_9).trans ((zx_goto zh_X10_isGood_10 rfl).trans ((zx_putfield zh_X10_isGood_14)))
theorem ze_X10_isGood_13 {d : Nat} {f : zF} {m : zM} {a0 a1 : Value} {y0 : Nat} : zex zTb d zqX10_isGood 13 [a0, a1] [.ref y0] f m = if (zco (f y0) 9 0 && zok (zfty 9 0) (.int (I 1))) = true then zex zTb d zqX10_isGood 17 [a0, a1] [] (zup f y0 (zcs (f y0) 0 (.int (I 1)))) m else none := (zx_iconst zh_X10_isGood_13).trans ((zx_putfield zh_X10_isGood_14))
theorem ze_X10_isGood_17 {d : Nat} {f : zF} {m : zM} {x0 : Nat} {a1 : Value} : zex zTb d zqX10_isGood 17 [.ref x0, a1] [] f m = if zco (f x0) 9 0 = true then zex zTb d zqX10_isGood 21 [.ref x0, a1] [zcf (f x0) 0] f m else none := (zxl_go (x := (18, [.ref x0, a1], [.ref x0], f, m)) zh_X10_isGood_17 rfl).trans ((zx_getfield zh_X10_isGood_18))
theorem ze_X10_isGood_21 {d : Nat} {f : zF} {m : zM} {a0 a1 : Value} {y0 : Int32} : zex zTb d zqX10_isGood 21 [a0, a1] [.int y0] f m = if zc1 .ne y0 = true then zex zTb d zqX10_isGood 37 [a0, a1] [] f m else zex zTb d zqX10_isGood 24 [a0, a1] [] f m := (zx_if (tgt := 37) zh_X10_isGood_21 rfl)
theorem ze_X10_isGood_24 {d : Nat} {f : zF} {m : zM} {x0 : Nat} {a1 : Value} : zex zTb d zqX10_isGood 24 [.ref x0, a1] [] f m = if zco (f x0) 9 3 = true then zex zTb d zqX10_isGood 28 [.ref x0, a1] [zcf (f x0) 3] f m else none := (zxl_go (x := (25, [.ref x0, a1], [.ref x0], f, m)) zh_X10_isGood_24 rfl).trans ((zx_getfield zh_X10_isGood_25))
theorem ze_X10_isGood_28 {d : Nat} {f : zF} {m : zM} {a0 : Value} {x1 : Int32} {y0 : Nat} : zex zTb d zqX10_isGood 28 [a0, .int x1] [.ref y0] f m = if zri (f y0) 2 x1 = true then zex zTb d zqX10_isGood 30 [a0, .int x1] [.int (zgi (f y0) x1.toNatClampNeg)] f m else none := (zxl_go (x := (29, [a0, .int x1], [.int x1, .ref y0], f, m)) zh_X10_isGood_28 rfl).trans ((zx_baload zh_X10_isGood_29))
theorem ze_X10_isGood_30 {d : Nat} {f : zF} {m : zM} {a0 a1 : Value} {y0 : Int32} : zex zTb d zqX10_isGood 30 [a0, a1] [.int y0] f m = if zc1 .eq y0 = true then zex zTb d zqX10_isGood 37 [a0, a1] [] f m else zex zTb d zqX10_isGood 33 [a0, a1] [] f m := (zx_if (tgt := 37) zh_X10_isGood_30 rfl)
theorem ze_X10_isGood_33 {d : Nat} {f : zF} {m : zM} {a0 a1 : Value} : zex zTb d zqX10_isGood 33 [a0, a1] [] f m = some (.inl (some (.int (I 1))), f, m) := (zx_iconst zh_X10_isGood_33).trans ((zx_goto zh_X10_isGood_34 rfl).trans ((zx_iret zh_X10_isGood_38 (by first | rfl | decide))))
theorem ze_X10_isGood_37 {d : Nat} {f : zF} {m : zM} {a0 a1 : Value} : zex zTb d zqX10_isGood 37 [a0, a1] [] f m = some (.inl (some (.int (I 0))), f, m) := (zx_iconst zh_X10_isGood_37).trans ((zx_iret zh_X10_isGood_38 (by first | rfl | decide)))
-- X10_pieceCount
theorem zh_X10_pieceCount_0 : zfe zqX10_pieceCount.i 0 = some (0, .aload_n 0, 1, 0, 0, 0) := rfl
theorem zh_X10_pieceCount_1 : zfe zqX10_pieceCount.i 1 = some (1, .iconst 0, 1, 0, 0, 0) := rfl
theorem zh_X10_pieceCount_2 : zfe zqX10_pieceCount.i 2 = some (2, .putfield 67, 3, 9, 0, 0) := rfl
theorem zh_X10_pieceCount_5 : zfe zqX10_pieceCount.i 5 = some (5, .aload_n 0, 1, 0, 0, 0) := rfl
theorem zh_X10_pieceCount_6 : zfe zqX10_pieceCount.i 6 = some (6, .getfield 94, 3, 9, 5, 0) := rfl
theorem zh_X10_pieceCount_9 : zfe zqX10_pieceCount.i 9 = some (9, .ireturn, 1, 0, 0, 0) := rfl
theorem ze_X10_pieceCount_0 {d : Nat} {f : zF} {m : zM} {x0 : Nat} : zex zTb d zqX10_pieceCount 0 [.ref x0] [] f m = if (zco (f x0) 9 0 && zok (zfty 9 0) (.int (I 0))) = true then zex zTb d zqX10_pieceCount 5 [.ref x0] [] (zup f x0 (zcs (f x0) 0 (.int (I 0)))) m else none := (zxl_go (x := (1, [.ref x0], [.ref x0], f, m)) zh_X10_pieceCount_0 rfl).trans ((zx_iconst zh_X10_pieceCount_1).trans ((zx_putfield zh_X10_pieceCount_2)))
theorem ze_X10_pieceCount_5 {d : Nat} {f : zF} {m : zM} {x0 : Nat} : zex zTb d zqX10_pieceCount 5 [.ref x0] [] f m = if zco (f x0) 9 5 = true then zex zTb d zqX10_pieceCount 9 [.ref x0] [zcf (f x0) 5] f m else none := (zxl_go (x := (6, [.ref x0], [.ref x0], f, m)) zh_X10_pieceCount_5 rfl).trans ((zx_getfield zh_X10_pieceCount_6))
theorem ze_X10_pieceCount_9 {d : Nat} {f : zF} {m : zM} {a0 : Value} {y0 : Int32} : zex zTb d zqX10_pieceCount 9 [a0] [.int y0] f m = some (.inl (some (.int y0)), f, m) := (zx_iret zh_X10_pieceCount_9 (by first | rfl | decide))
-- X10_piece
theorem zh_X10_piece_0 : zfe zqX10_piece.i 0 = some (0, .aload_n 0, 1, 0, 0, 0) := rfl
theorem zh_X10_piece_1 : zfe zqX10_piece.i 1 = some (1, .iload_n 1, 1, 0, 0, 0) := rfl
theorem zh_X10_piece_2 : zfe zqX10_piece.i 2 = some (2, .iconst 0, 1, 0, 0, 0) := rfl
theorem zh_X10_piece_3 : zfe zqX10_piece.i 3 = some (3, .aload_n 0, 1, 0, 0, 0) := rfl
theorem zh_X10_piece_4 : zfe zqX10_piece.i 4 = some (4, .getfield 94, 3, 9, 5, 0) := rfl
theorem zh_X10_piece_7 : zfe zqX10_piece.i 7 = some (7, .iconst 1, 1, 0, 0, 0) := rfl
theorem zh_X10_piece_8 : zfe zqX10_piece.i 8 = some (8, .isub, 1, 0, 0, 0) := rfl
theorem zh_X10_piece_9 : zfe zqX10_piece.i 9 = some (9, .invokestatic 74, 3, 115, 3, 0) := rfl
theorem zh_X10_piece_12 : zfe zqX10_piece.i 12 = some (12, .ifCond .eq 7, 3, 0, 0, 0) := rfl
theorem zh_X10_piece_15 : zfe zqX10_piece.i 15 = some (15, .iconst 0, 1, 0, 0, 0) := rfl
theorem zh_X10_piece_16 : zfe zqX10_piece.i 16 = some (16, .goto 4, 3, 0, 0, 0) := rfl
theorem zh_X10_piece_19 : zfe zqX10_piece.i 19 = some (19, .iconst 1, 1, 0, 0, 0) := rfl
theorem zh_X10_piece_20 : zfe zqX10_piece.i 20 = some (20, .putfield 67, 3, 9, 0, 0) := rfl
theorem zh_X10_piece_23 : zfe zqX10_piece.i 23 = some (23, .aload_n 0, 1, 0, 0, 0) := rfl
theorem zh_X10_piece_24 : zfe zqX10_piece.i 24 = some (24, .getfield 67, 3, 9, 0, 0) := rfl
theorem zh_X10_piece_27 : zfe zqX10_piece.i 27 = some (27, .ifCond .ne 15, 3, 0, 0, 0) := rfl
theorem zh_X10_piece_30 : zfe zqX10_piece.i 30 = some (30, .aload_n 0, 1, 0, 0, 0) := rfl
theorem zh_X10_piece_31 : zfe zqX10_piece.i 31 = some (31, .getfield 20, 3, 9, 6, 0) := rfl
theorem zh_X10_piece_34 : zfe zqX10_piece.i 34 = some (34, .iload_n 1, 1, 0, 0, 0) := rfl
theorem zh_X10_piece_35 : zfe zqX10_piece.i 35 = some (35, .iaload, 1, 0, 0, 0) := rfl
theorem zh_X10_piece_36 : zfe zqX10_piece.i 36 = some (36, .invokestatic 112, 3, 118, 1, 0) := rfl
theorem zh_X10_piece_39 : zfe zqX10_piece.i 39 = some (39, .goto 4, 3, 0, 0, 0) := rfl
theorem zh_X10_piece_42 : zfe zqX10_piece.i 42 = some (42, .lconst 0, 1, 0, 0, 0) := rfl
theorem zh_X10_piece_43 : zfe zqX10_piece.i 43 = some (43, .lreturn, 1, 0, 0, 0) := rfl
theorem ze_X10_piece_0 {d : Nat} {f : zF} {m : zM} {x0 : Nat} {x1 : Int32} : zex zTb d zqX10_piece 0 [.ref x0, .int x1] [] f m = if zco (f x0) 9 5 = true then zex zTb d zqX10_piece 7 [.ref x0, .int x1] [zcf (f x0) 5, .int (I 0), .int x1, .ref x0] f m else none := (zxl_go (x := (1, [.ref x0, .int x1], [.ref x0], f, m)) zh_X10_piece_0 rfl).trans ((zxl_go (x := (2, [.ref x0, .int x1], [.int x1, .ref x0], f, m)) zh_X10_piece_1 rfl).trans ((zx_iconst zh_X10_piece_2).trans ((zxl_go (x := (4, [.ref x0, .int x1], [.ref x0, .int (I 0), .int x1, .ref x0], f, m)) zh_X10_piece_3 rfl).trans ((zx_getfield zh_X10_piece_4)))))
theorem ze_X10_piece_7 {d : Nat} {f : zF} {m : zM} {a0 a1 : Value} {y0 : Nat} {y1 y2 y3 : Int32} : zex zTb d zqX10_piece 7 [a0, a1] [.int y3, .int y2, .int y1, .ref y0] f m = zcal zTb (zrun zTb d 115 [.int y1, .int y2, .int (y3 - (I 1))] f m) d zqX10_piece 9 12 [a0, a1] [.ref y0] := (zx_iconst zh_X10_piece_7).trans ((zxl_go (x := (9, [a0, a1], [.int (y3 - (I 1)), .int y2, .int y1, .ref y0], f, m)) zh_X10_piece_8 rfl).trans (((zx_static zh_X10_piece_9 (Nat.le_of_ble_eq_true rfl) rfl rfl).trans (if_pos (Nat.le_of_ble_eq_true rfl)))))
theorem ze_X10_piece_12 {d : Nat} {f : zF} {m : zM} {a0 a1 : Value} {y0 : Nat} {y1 : Int32} : zex zTb d zqX10_piece 12 [a0, a1] [.int y1, .ref y0] f m = if zc1 .eq y1 = true then zex zTb d zqX10_piece 19 [a0, a1] [.ref y0] f m else zex zTb d zqX10_piece 15 [a0, a1] [.ref y0] f m := (zx_if (tgt := 19) zh_X10_piece_12 rfl)
theorem ze_X10_piece_15 {d : Nat} {f : zF} {m : zM} {a0 a1 : Value} {y0 : Nat} : zex zTb d zqX10_piece 15 [a0, a1] [.ref y0] f m = if (zco (f y0) 9 0 && zok (zfty 9 0) (.int (I 0))) = true then zex zTb d zqX10_piece 23 [a0, a1] [] (zup f y0 (zcs (f y0) 0 (.int (I 0)))) m else none := (zx_iconst zh_X10_piece_15).trans ((zx_goto zh_X10_piece_16 rfl).trans ((zx_putfield zh_X10_piece_20)))
theorem ze_X10_piece_19 {d : Nat} {f : zF} {m : zM} {a0 a1 : Value} {y0 : Nat} : zex zTb d zqX10_piece 19 [a0, a1] [.ref y0] f m = if (zco (f y0) 9 0 && zok (zfty 9 0) (.int (I 1))) = true then zex zTb d zqX10_piece 23 [a0, a1] [] (zup f y0 (zcs (f y0) 0 (.int (I 1)))) m else none := (zx_iconst zh_X10_piece_19).trans ((zx_putfield zh_X10_piece_20))
theorem ze_X10_piece_23 {d : Nat} {f : zF} {m : zM} {x0 : Nat} {a1 : Value} : zex zTb d zqX10_piece 23 [.ref x0, a1] [] f m = if zco (f x0) 9 0 = true then zex zTb d zqX10_piece 27 [.ref x0, a1] [zcf (f x0) 0] f m else none := (zxl_go (x := (24, [.ref x0, a1], [.ref x0], f, m)) zh_X10_piece_23 rfl).trans ((zx_getfield zh_X10_piece_24))
theorem ze_X10_piece_27 {d : Nat} {f : zF} {m : zM} {a0 a1 : Value} {y0 : Int32} : zex zTb d zqX10_piece 27 [a0, a1] [.int y0] f m = if zc1 .ne y0 = true then zex zTb d zqX10_piece 42 [a0, a1] [] f m else zex zTb d zqX10_piece 30 [a0, a1] [] f m := (zx_if (tgt := 42) zh_X10_piece_27 rfl)
theorem ze_X10_piece_30 {d : Nat} {f : zF} {m : zM} {x0 : Nat} {a1 : Value} : zex zTb d zqX10_piece 30 [.ref x0, a1] [] f m = if zco (f x0) 9 6 = true then zex zTb d zqX10_piece 34 [.ref x0, a1] [zcf (f x0) 6] f m else none := (zxl_go (x := (31, [.ref x0, a1], [.ref x0], f, m)) zh_X10_piece_30 rfl).trans ((zx_getfield zh_X10_piece_31))
theorem ze_X10_piece_34 {d : Nat} {f : zF} {m : zM} {a0 : Value} {x1 : Int32} {y0 : Nat} : zex zTb d zqX10_piece 34 [a0, .int x1] [.ref y0] f m = if zr8 (f y0) x1 = true then zex zTb d zqX10_piece 36 [a0, .int x1] [.int (zgi (f y0) x1.toNatClampNeg)] f m else none := (zxl_go (x := (35, [a0, .int x1], [.int x1, .ref y0], f, m)) zh_X10_piece_34 rfl).trans ((zx_iaload zh_X10_piece_35))
theorem ze_X10_piece_36 {d : Nat} {f : zF} {m : zM} {a0 a1 : Value} {y0 : Int32} : zex zTb d zqX10_piece 36 [a0, a1] [.int y0] f m = zcal zTb (zrun zTb d 118 [.int y0] f m) d zqX10_piece 36 39 [a0, a1] [] := ((zx_static zh_X10_piece_36 (Nat.le_of_ble_eq_true rfl) rfl rfl).trans (if_pos (Nat.le_of_ble_eq_true rfl)))
theorem ze_X10_piece_39 {d : Nat} {f : zF} {m : zM} {a0 a1 : Value} {y0 : Int64} : zex zTb d zqX10_piece 39 [a0, a1] [.long y0] f m = some (.inl (some (.long y0)), f, m) := (zx_goto zh_X10_piece_39 rfl).trans ((zx_lret zh_X10_piece_43 rfl))
theorem ze_X10_piece_42 {d : Nat} {f : zF} {m : zM} {a0 a1 : Value} : zex zTb d zqX10_piece 42 [a0, a1] [] f m = some (.inl (some (.long (J 0))), f, m) := (zx_lconst (v := 0) zh_X10_piece_42 (by decide)).trans ((zx_lret zh_X10_piece_43 rfl))
-- X10_has
theorem zh_X10_has_0 : zfe zqX10_has.i 0 = some (0, .lload_n 0, 1, 0, 0, 0) := rfl
theorem zh_X10_has_1 : zfe zqX10_has.i 1 = some (1, .iload_n 2, 1, 0, 0, 0) := rfl
theorem zh_X10_has_2 : zfe zqX10_has.i 2 = some (2, .lshr, 1, 0, 0, 0) := rfl
theorem zh_X10_has_3 : zfe zqX10_has.i 3 = some (3, .lconst 1, 1, 0, 0, 0) := rfl
theorem zh_X10_has_4 : zfe zqX10_has.i 4 = some (4, .land, 1, 0, 0, 0) := rfl
theorem zh_X10_has_5 : zfe zqX10_has.i 5 = some (5, .lconst 1, 1, 0, 0, 0) := rfl
theorem zh_X10_has_6 : zfe zqX10_has.i 6 = some (6, .lcmp, 1, 0, 0, 0) := rfl
theorem zh_X10_has_7 : zfe zqX10_has.i 7 = some (7, .ifCond .ne 7, 3, 0, 0, 0) := rfl
theorem zh_X10_has_10 : zfe zqX10_has.i 10 = some (10, .iconst 1, 1, 0, 0, 0) := rfl
theorem zh_X10_has_11 : zfe zqX10_has.i 11 = some (11, .goto 4, 3, 0, 0, 0) := rfl
theorem zh_X10_has_14 : zfe zqX10_has.i 14 = some (14, .iconst 0, 1, 0, 0, 0) := rfl
theorem zh_X10_has_15 : zfe zqX10_has.i 15 = some (15, .ireturn, 1, 0, 0, 0) := rfl
theorem ze_X10_has_0 {d : Nat} {f : zF} {m : zM} {x0 : Int64} {a1 : Value} {x2 : Int32} : zex zTb d zqX10_has 0 [.long x0, a1, .int x2] [] f m = if zc1 .ne (lg_cmp ((x0 >>> (x2.toInt64 &&& 63)) &&& (J 1)) (J 1)) = true then zex zTb d zqX10_has 14 [.long x0, a1, .int x2] [] f m else zex zTb d zqX10_has 10 [.long x0, a1, .int x2] [] f m := (zxl_go (x := (1, [.long x0, a1, .int x2], [.long x0], f, m)) zh_X10_has_0 rfl).trans ((zxl_go (x := (2, [.long x0, a1, .int x2], [.int x2, .long x0], f, m)) zh_X10_has_1 rfl).trans ((zxl_go (x := (3, [.long x0, a1, .int x2], [.long (x0 >>> (x2.toInt64 &&& 63))], f, m)) zh_X10_has_2 rfl).trans ((zx_lconst (v := 1) zh_X10_has_3 (by decide)).trans ((zxl_go (x := (5, [.long x0, a1, .int x2], [.long ((x0 >>> (x2.toInt64 &&& 63)) &&& (J 1))], f, m)) zh_X10_has_4 rfl).trans ((zx_lconst (v := 1) zh_X10_has_5 (by decide)).trans ((zxl_go (x := (7, [.long x0, a1, .int x2], [.int (lg_cmp ((x0 >>> (x2.toInt64 &&& 63)) &&& (J 1)) (J 1))], f, m)) zh_X10_has_6 rfl).trans ((zx_if (tgt := 14) zh_X10_has_7 rfl))))))))
theorem ze_X10_has_10 {d : Nat} {f : zF} {m : zM} {a0 a1 a2 : Value} : zex zTb d zqX10_has 10 [a0, a1, a2] [] f m = some (.inl (some (.int (I 1))), f, m) := (zx_iconst zh_X10_has_10).trans ((zx_goto zh_X10_has_11 rfl).trans ((zx_iret zh_X10_has_15 (by first | rfl | decide))))
theorem ze_X10_has_14 {d : Nat} {f : zF} {m : zM} {a0 a1 a2 : Value} : zex zTb d zqX10_has 14 [a0, a1, a2] [] f m = some (.inl (some (.int (I 0))), f, m) := (zx_iconst zh_X10_has_14).trans ((zx_iret zh_X10_has_15 (by first | rfl | decide)))
-- X10_chain
theorem zh_X10_chain_0 : zfe zqX10_chain.i 0 = some (0, .lconst 0, 1, 0, 0, 0) := rfl
theorem zh_X10_chain_1 : zfe zqX10_chain.i 1 = some (1, .lstore 6, 2, 0, 0, 0) := rfl
theorem zh_X10_chain_3 : zfe zqX10_chain.i 3 = some (3, .iconst 0, 1, 0, 0, 0) := rfl
theorem zh_X10_chain_4 : zfe zqX10_chain.i 4 = some (4, .istore 8, 2, 0, 0, 0) := rfl
theorem zh_X10_chain_6 : zfe zqX10_chain.i 6 = some (6, .iload 8, 2, 0, 0, 0) := rfl
theorem zh_X10_chain_8 : zfe zqX10_chain.i 8 = some (8, .aload_n 0, 1, 0, 0, 0) := rfl
theorem zh_X10_chain_9 : zfe zqX10_chain.i 9 = some (9, .getfield 94, 3, 9, 5, 0) := rfl
theorem zh_X10_chain_12 : zfe zqX10_chain.i 12 = some (12, .if_icmp .ge 89, 3, 0, 0, 0) := rfl
theorem zh_X10_chain_15 : zfe zqX10_chain.i 15 = some (15, .bipush 7, 2, 0, 0, 0) := rfl
theorem zh_X10_chain_17 : zfe zqX10_chain.i 17 = some (17, .iload 8, 2, 0, 0, 0) := rfl
theorem zh_X10_chain_19 : zfe zqX10_chain.i 19 = some (19, .imul, 1, 0, 0, 0) := rfl
theorem zh_X10_chain_20 : zfe zqX10_chain.i 20 = some (20, .istore 9, 2, 0, 0, 0) := rfl
theorem zh_X10_chain_22 : zfe zqX10_chain.i 22 = some (22, .iload 5, 2, 0, 0, 0) := rfl
theorem zh_X10_chain_24 : zfe zqX10_chain.i 24 = some (24, .ifCond .eq 7, 3, 0, 0, 0) := rfl
theorem zh_X10_chain_27 : zfe zqX10_chain.i 27 = some (27, .iconst 1, 1, 0, 0, 0) := rfl
theorem zh_X10_chain_28 : zfe zqX10_chain.i 28 = some (28, .goto 4, 3, 0, 0, 0) := rfl
theorem zh_X10_chain_31 : zfe zqX10_chain.i 31 = some (31, .iconst 0, 1, 0, 0, 0) := rfl
theorem zh_X10_chain_32 : zfe zqX10_chain.i 32 = some (32, .istore 10, 2, 0, 0, 0) := rfl
theorem zh_X10_chain_34 : zfe zqX10_chain.i 34 = some (34, .iload 10, 2, 0, 0, 0) := rfl
theorem zh_X10_chain_36 : zfe zqX10_chain.i 36 = some (36, .aload_n 0, 1, 0, 0, 0) := rfl
theorem zh_X10_chain_37 : zfe zqX10_chain.i 37 = some (37, .getfield 23, 3, 9, 7, 0) := rfl
theorem zh_X10_chain_40 : zfe zqX10_chain.i 40 = some (40, .iload 8, 2, 0, 0, 0) := rfl
theorem zh_X10_chain_42 : zfe zqX10_chain.i 42 = some (42, .iaload, 1, 0, 0, 0) := rfl
theorem zh_X10_chain_43 : zfe zqX10_chain.i 43 = some (43, .if_icmp .gt 52, 3, 0, 0, 0) := rfl
theorem zh_X10_chain_46 : zfe zqX10_chain.i 46 = some (46, .lload_n 1, 1, 0, 0, 0) := rfl
theorem zh_X10_chain_47 : zfe zqX10_chain.i 47 = some (47, .aload_n 0, 1, 0, 0, 0) := rfl
theorem zh_X10_chain_48 : zfe zqX10_chain.i 48 = some (48, .getfield 26, 3, 9, 8, 0) := rfl
theorem zh_X10_chain_51 : zfe zqX10_chain.i 51 = some (51, .iload 9, 2, 0, 0, 0) := rfl
theorem zh_X10_chain_53 : zfe zqX10_chain.i 53 = some (53, .iload 10, 2, 0, 0, 0) := rfl
theorem zh_X10_chain_55 : zfe zqX10_chain.i 55 = some (55, .iadd, 1, 0, 0, 0) := rfl
theorem zh_X10_chain_56 : zfe zqX10_chain.i 56 = some (56, .iaload, 1, 0, 0, 0) := rfl
theorem zh_X10_chain_57 : zfe zqX10_chain.i 57 = some (57, .invokestatic 116, 3, 132, 2, 0) := rfl
theorem zh_X10_chain_60 : zfe zqX10_chain.i 60 = some (60, .ifCond .eq 29, 3, 0, 0, 0) := rfl
theorem zh_X10_chain_63 : zfe zqX10_chain.i 63 = some (63, .lload_n 3, 1, 0, 0, 0) := rfl
theorem zh_X10_chain_64 : zfe zqX10_chain.i 64 = some (64, .aload_n 0, 1, 0, 0, 0) := rfl
theorem zh_X10_chain_65 : zfe zqX10_chain.i 65 = some (65, .getfield 29, 3, 9, 9, 0) := rfl
theorem zh_X10_chain_68 : zfe zqX10_chain.i 68 = some (68, .iload 9, 2, 0, 0, 0) := rfl
theorem zh_X10_chain_70 : zfe zqX10_chain.i 70 = some (70, .iload 10, 2, 0, 0, 0) := rfl
theorem zh_X10_chain_72 : zfe zqX10_chain.i 72 = some (72, .iadd, 1, 0, 0, 0) := rfl
theorem zh_X10_chain_73 : zfe zqX10_chain.i 73 = some (73, .iaload, 1, 0, 0, 0) := rfl
theorem zh_X10_chain_74 : zfe zqX10_chain.i 74 = some (74, .invokestatic 116, 3, 132, 2, 0) := rfl
theorem zh_X10_chain_77 : zfe zqX10_chain.i 77 = some (77, .ifCond .eq 12, 3, 0, 0, 0) := rfl
theorem zh_X10_chain_80 : zfe zqX10_chain.i 80 = some (80, .lload 6, 2, 0, 0, 0) := rfl
theorem zh_X10_chain_82 : zfe zqX10_chain.i 82 = some (82, .lconst 1, 1, 0, 0, 0) := rfl
theorem zh_X10_chain_83 : zfe zqX10_chain.i 83 = some (83, .iload 8, 2, 0, 0, 0) := rfl
theorem zh_X10_chain_85 : zfe zqX10_chain.i 85 = some (85, .lshl, 1, 0, 0, 0) := rfl
theorem zh_X10_chain_86 : zfe zqX10_chain.i 86 = some (86, .lor, 1, 0, 0, 0) := rfl
theorem zh_X10_chain_87 : zfe zqX10_chain.i 87 = some (87, .lstore 6, 2, 0, 0, 0) := rfl
theorem zh_X10_chain_89 : zfe zqX10_chain.i 89 = some (89, .iinc 10 1, 3, 0, 0, 0) := rfl
theorem zh_X10_chain_92 : zfe zqX10_chain.i 92 = some (92, .goto (-58), 3, 0, 0, 0) := rfl
theorem zh_X10_chain_95 : zfe zqX10_chain.i 95 = some (95, .iinc 8 1, 3, 0, 0, 0) := rfl
theorem zh_X10_chain_98 : zfe zqX10_chain.i 98 = some (98, .goto (-92), 3, 0, 0, 0) := rfl
theorem zh_X10_chain_101 : zfe zqX10_chain.i 101 = some (101, .lload 6, 2, 0, 0, 0) := rfl
theorem zh_X10_chain_103 : zfe zqX10_chain.i 103 = some (103, .lreturn, 1, 0, 0, 0) := rfl
theorem ze_X10_chain_0 {d : Nat} {f : zF} {m : zM} {a0 a1 a2 a3 a4 a5 a6 a7 a8 a9 a10 : Value} : zex zTb d zqX10_chain 0 [a0, a1, a2, a3, a4, a5, a6, a7, a8, a9, a10] [] f m = zex zTb d zqX10_chain 6 [a0, a1, a2, a3, a4, (zclr a5), .long (J 0), .null, .int (I 0), a9, a10] [] f m := (zx_lconst (v := 0) zh_X10_chain_0 (by decide)).trans ((zxl_go (x := (3, [a0, a1, a2, a3, a4, (zclr a5), .long (J 0), .null, a8, a9, a10], [], f, m)) zh_X10_chain_1 rfl).trans ((zx_iconst zh_X10_chain_3).trans ((zxl_go (x := (6, [a0, a1, a2, a3, a4, (zclr a5), .long (J 0), .null, .int (I 0), a9, a10], [], f, m)) zh_X10_chain_4 rfl))))
theorem ze_X10_chain_6 {d : Nat} {f : zF} {m : zM} {x0 : Nat} {a1 a2 a3 a4 a5 a6 a7 a9 a10 : Value} {x8 : Int32} : zex zTb d zqX10_chain 6 [.ref x0, a1, a2, a3, a4, a5, a6, a7, .int x8, a9, a10] [] f m = if zco (f x0) 9 5 = true then zex zTb d zqX10_chain 12 [.ref x0, a1, a2, a3, a4, a5, a6, a7, .int x8, a9, a10] [zcf (f x0) 5, .int x8] f m else none := (zxl_go (x := (8, [.ref x0, a1, a2, a3, a4, a5, a6, a7, .int x8, a9, a10], [.int x8], f, m)) zh_X10_chain_6 rfl).trans ((zxl_go (x := (9, [.ref x0, a1, a2, a3, a4, a5, a6, a7, .int x8, a9, a10], [.ref x0, .int x8], f, m)) zh_X10_chain_8 rfl).trans ((zx_getfield zh_X10_chain_9)))
theorem ze_X10_chain_12 {d : Nat} {f : zF} {m : zM} {a0 a1 a2 a3 a4 a5 a6 a7 a8 a9 a10 : Value} {y0 y1 : Int32} : zex zTb d zqX10_chain 12 [a0, a1, a2, a3, a4, a5, a6, a7, a8, a9, a10] [.int y1, .int y0] f m = if zc2 .ge y0 y1 = true then zex zTb d zqX10_chain 101 [a0, a1, a2, a3, a4, a5, a6, a7, a8, a9, a10] [] f m else zex zTb d zqX10_chain 15 [a0, a1, a2, a3, a4, a5, a6, a7, a8, a9, a10] [] f m := (zx_icmp (tgt := 101) zh_X10_chain_12 rfl)
theorem ze_X10_chain_15 {d : Nat} {f : zF} {m : zM} {a0 a1 a2 a3 a4 a6 a7 a9 a10 : Value} {x5 x8 : Int32} : zex zTb d zqX10_chain 15 [a0, a1, a2, a3, a4, .int x5, a6, a7, .int x8, a9, a10] [] f m = if zc1 .eq x5 = true then zex zTb d zqX10_chain 31 [a0, a1, a2, a3, a4, .int x5, a6, a7, .int x8, .int ((I 7) * x8), a10] [] f m else zex zTb d zqX10_chain 27 [a0, a1, a2, a3, a4, .int x5, a6, a7, .int x8, .int ((I 7) * x8), a10] [] f m := (zx_bipush zh_X10_chain_15 (by decide)).trans ((zxl_go (x := (19, [a0, a1, a2, a3, a4, .int x5, a6, a7, .int x8, a9, a10], [.int x8, .int (I 7)], f, m)) zh_X10_chain_17 rfl).trans ((zxl_go (x := (20, [a0, a1, a2, a3, a4, .int x5, a6, a7, .int x8, a9, a10], [.int ((I 7) * x8)], f, m)) zh_X10_chain_19 rfl).trans ((zxl_go (x := (22, [a0, a1, a2, a3, a4, .int x5, a6, a7, .int x8, .int ((I 7) * x8), a10], [], f, m)) zh_X10_chain_20 rfl).trans ((zxl_go (x := (24, [a0, a1, a2, a3, a4, .int x5, a6, a7, .int x8, .int ((I 7) * x8), a10], [.int x5], f, m)) zh_X10_chain_22 rfl).trans ((zx_if (tgt := 31) zh_X10_chain_24 rfl))))))
theorem ze_X10_chain_27 {d : Nat} {f : zF} {m : zM} {a0 a1 a2 a3 a4 a5 a6 a7 a8 a9 a10 : Value} : zex zTb d zqX10_chain 27 [a0, a1, a2, a3, a4, a5, a6, a7, a8, a9, a10] [] f m = zex zTb d zqX10_chain 34 [a0, a1, a2, a3, a4, a5, a6, a7, a8, (zclr a9), .int (I 1)] [] f m := (zx_iconst zh_X10_chain_27).trans ((zx_goto zh_X10_chain_28 rfl).trans ((zxl_go (x := (34, [a0, a1, a2, a3, a4, a5, a6, a7, a8, (zclr a9), .int (I 1)], [], f, m)) zh_X10_chain_32 rfl)))
theorem ze_X10_chain_31 {d : Nat} {f : zF} {m : zM} {a0 a1 a2 a3 a4 a5 a6 a7 a8 a9 a10 : Value} : zex zTb d zqX10_chain 31 [a0, a1, a2, a3, a4, a5, a6, a7, a8, a9, a10] [] f m = zex zTb d zqX10_chain 34 [a0, a1, a2, a3, a4, a5, a6, a7, a8, (zclr a9), .int (I 0)] [] f m := (zx_iconst zh_X10_chain_31).trans ((zxl_go (x := (34, [a0, a1, a2, a3, a4, a5, a6, a7, a8, (zclr a9), .int (I 0)], [], f, m)) zh_X10_chain_32 rfl))
theorem ze_X10_chain_34 {d : Nat} {f : zF} {m : zM} {x0 : Nat} {a1 a2 a3 a4 a5 a6 a7 a8 a9 : Value} {x10 : Int32} : zex zTb d zqX10_chain 34 [.ref x0, a1, a2, a3, a4, a5, a6, a7, a8, a9, .int x10] [] f m = if zco (f x0) 9 7 = true then zex zTb d zqX10_chain 40 [.ref x0, a1, a2, a3, a4, a5, a6, a7, a8, a9, .int x10] [zcf (f x0) 7, .int x10] f m else none := (zxl_go (x := (36, [.ref x0, a1, a2, a3, a4, a5, a6, a7, a8, a9, .int x10], [.int x10], f, m)) zh_X10_chain_34 rfl).trans ((zxl_go (x := (37, [.ref x0, a1, a2, a3, a4, a5, a6, a7, a8, a9, .int x10], [.ref x0, .int x10], f, m)) zh_X10_chain_36 rfl).trans ((zx_getfield zh_X10_chain_37)))
theorem ze_X10_chain_40 {d : Nat} {f : zF} {m : zM} {a0 a1 a2 a3 a4 a5 a6 a7 a9 a10 : Value} {x8 y0 : Int32} {y1 : Nat} : zex zTb d zqX10_chain 40 [a0, a1, a2, a3, a4, a5, a6, a7, .int x8, a9, a10] [.ref y1, .int y0] f m = if zr8 (f y1) x8 = true then zex zTb d zqX10_chain 43 [a0, a1, a2, a3, a4, a5, a6, a7, .int x8, a9, a10] [.int (zgi (f y1) x8.toNatClampNeg), .int y0] f m else none := (zxl_go (x := (42, [a0, a1, a2, a3, a4, a5, a6, a7, .int x8, a9, a10], [.int x8, .ref y1, .int y0], f, m)) zh_X10_chain_40 rfl).trans ((zx_iaload zh_X10_chain_42))
theorem ze_X10_chain_43 {d : Nat} {f : zF} {m : zM} {a0 a1 a2 a3 a4 a5 a6 a7 a8 a9 a10 : Value} {y0 y1 : Int32} : zex zTb d zqX10_chain 43 [a0, a1, a2, a3, a4, a5, a6, a7, a8, a9, a10] [.int y1, .int y0] f m = if zc2 .gt y0 y1 = true then zex zTb d zqX10_chain 95 [a0, a1, a2, a3, a4, a5, a6, a7, a8, a9, a10] [] f m else zex zTb d zqX10_chain 46 [a0, a1, a2, a3, a4, a5, a6, a7, a8, a9, a10] [] f m := (zx_icmp (tgt := 95) zh_X10_chain_43 rfl)
theorem ze_X10_chain_46 {d : Nat} {f : zF} {m : zM} {x0 : Nat} {x1 : Int64} {a2 a3 a4 a5 a6 a7 a8 a9 a10 : Value} : zex zTb d zqX10_chain 46 [.ref x0, .long x1, a2, a3, a4, a5, a6, a7, a8, a9, a10] [] f m = if zco (f x0) 9 8 = true then zex zTb d zqX10_chain 51 [.ref x0, .long x1, a2, a3, a4, a5, a6, a7, a8, a9, a10] [zcf (f x0) 8, .long x1] f m else none := (zxl_go (x := (47, [.ref x0, .long x1, a2, a3, a4, a5, a6, a7, a8, a9, a10], [.long x1], f, m)) zh_X10_chain_46 rfl).trans ((zxl_go (x := (48, [.ref x0, .long x1, a2, a3, a4, a5, a6, a7, a8, a9, a10], [.ref x0, .long x1], f, m)) zh_X10_chain_47 rfl).trans ((zx_getfield zh_X10_chain_48)))
theorem ze_X10_chain_51 {d : Nat} {f : zF} {m : zM} {a0 a1 a2 a3 a4 a5 a6 a7 a8 : Value} {x9 x10 : Int32} {y0 : Int64} {y1 : Nat} : zex zTb d zqX10_chain 51 [a0, a1, a2, a3, a4, a5, a6, a7, a8, .int x9, .int x10] [.ref y1, .long y0] f m = if zr8 (f y1) (x9 + x10) = true then zex zTb d zqX10_chain 57 [a0, a1, a2, a3, a4, a5, a6, a7, a8, .int x9, .int x10] [.int (zgi (f y1) (x9 + x10).toNatClampNeg), .long y0] f m else none := (zxl_go (x := (53, [a0, a1, a2, a3, a4, a5, a6, a7, a8, .int x9, .int x10], [.int x9, .ref y1, .long y0], f, m)) zh_X10_chain_51 rfl).trans ((zxl_go (x := (55, [a0, a1, a2, a3, a4, a5, a6, a7, a8, .int x9, .int x10], [.int x10, .int x9, .ref y1, .long y0], f, m)) zh_X10_chain_53 rfl).trans ((zxl_go (x := (56, [a0, a1, a2, a3, a4, a5, a6, a7, a8, .int x9, .int x10], [.int (x9 + x10), .ref y1, .long y0], f, m)) zh_X10_chain_55 rfl).trans ((zx_iaload zh_X10_chain_56))))
theorem ze_X10_chain_57 {d : Nat} {f : zF} {m : zM} {a0 a1 a2 a3 a4 a5 a6 a7 a8 a9 a10 : Value} {y0 : Int64} {y1 : Int32} : zex zTb d zqX10_chain 57 [a0, a1, a2, a3, a4, a5, a6, a7, a8, a9, a10] [.int y1, .long y0] f m = zcal zTb (zrun zTb d 132 [.long y0, .int y1] f m) d zqX10_chain 57 60 [a0, a1, a2, a3, a4, a5, a6, a7, a8, a9, a10] [] := ((zx_static zh_X10_chain_57 (Nat.le_of_ble_eq_true rfl) rfl rfl).trans (if_pos (Nat.le_of_ble_eq_true rfl)))
theorem ze_X10_chain_60 {d : Nat} {f : zF} {m : zM} {a0 a1 a2 a3 a4 a5 a6 a7 a8 a9 a10 : Value} {y0 : Int32} : zex zTb d zqX10_chain 60 [a0, a1, a2, a3, a4, a5, a6, a7, a8, a9, a10] [.int y0] f m = if zc1 .eq y0 = true then zex zTb d zqX10_chain 89 [a0, a1, a2, a3, a4, a5, a6, a7, a8, a9, a10] [] f m else zex zTb d zqX10_chain 63 [a0, a1, a2, a3, a4, a5, a6, a7, a8, a9, a10] [] f m := (zx_if (tgt := 89) zh_X10_chain_60 rfl)
theorem ze_X10_chain_63 {d : Nat} {f : zF} {m : zM} {x0 : Nat} {a1 a2 a4 a5 a6 a7 a8 a9 a10 : Value} {x3 : Int64} : zex zTb d zqX10_chain 63 [.ref x0, a1, a2, .long x3, a4, a5, a6, a7, a8, a9, a10] [] f m = if zco (f x0) 9 9 = true then zex zTb d zqX10_chain 68 [.ref x0, a1, a2, .long x3, a4, a5, a6, a7, a8, a9, a10] [zcf (f x0) 9, .long x3] f m else none := (zxl_go (x := (64, [.ref x0, a1, a2, .long x3, a4, a5, a6, a7, a8, a9, a10], [.long x3], f, m)) zh_X10_chain_63 rfl).trans ((zxl_go (x := (65, [.ref x0, a1, a2, .long x3, a4, a5, a6, a7, a8, a9, a10], [.ref x0, .long x3], f, m)) zh_X10_chain_64 rfl).trans ((zx_getfield zh_X10_chain_65)))
theorem ze_X10_chain_68 {d : Nat} {f : zF} {m : zM} {a0 a1 a2 a3 a4 a5 a6 a7 a8 : Value} {x9 x10 : Int32} {y0 : Int64} {y1 : Nat} : zex zTb d zqX10_chain 68 [a0, a1, a2, a3, a4, a5, a6, a7, a8, .int x9, .int x10] [.ref y1, .long y0] f m = if zr8 (f y1) (x9 + x10) = true then zex zTb d zqX10_chain 74 [a0, a1, a2, a3, a4, a5, a6, a7, a8, .int x9, .int x10] [.int (zgi (f y1) (x9 + x10).toNatClampNeg), .long y0] f m else none := (zxl_go (x := (70, [a0, a1, a2, a3, a4, a5, a6, a7, a8, .int x9, .int x10], [.int x9, .ref y1, .long y0], f, m)) zh_X10_chain_68 rfl).trans ((zxl_go (x := (72, [a0, a1, a2, a3, a4, a5, a6, a7, a8, .int x9, .int x10], [.int x10, .int x9, .ref y1, .long y0], f, m)) zh_X10_chain_70 rfl).trans ((zxl_go (x := (73, [a0, a1, a2, a3, a4, a5, a6, a7, a8, .int x9, .int x10], [.int (x9 + x10), .ref y1, .long y0], f, m)) zh_X10_chain_72 rfl).trans ((zx_iaload zh_X10_chain_73))))
theorem ze_X10_chain_74 {d : Nat} {f : zF} {m : zM} {a0 a1 a2 a3 a4 a5 a6 a7 a8 a9 a10 : Value} {y0 : Int64} {y1 : Int32} : zex zTb d zqX10_chain 74 [a0, a1, a2, a3, a4, a5, a6, a7, a8, a9, a10] [.int y1, .long y0] f m = zcal zTb (zrun zTb d 132 [.long y0, .int y1] f m) d zqX10_chain 74 77 [a0, a1, a2, a3, a4, a5, a6, a7, a8, a9, a10] [] := ((zx_static zh_X10_chain_74 (Nat.le_of_ble_eq_true rfl) rfl rfl).trans (if_pos (Nat.le_of_ble_eq_true rfl)))
theorem ze_X10_chain_77 {d : Nat} {f : zF} {m : zM} {a0 a1 a2 a3 a4 a5 a6 a7 a8 a9 a10 : Value} {y0 : Int32} : zex zTb d zqX10_chain 77 [a0, a1, a2, a3, a4, a5, a6, a7, a8, a9, a10] [.int y0] f m = if zc1 .eq y0 = true then zex zTb d zqX10_chain 89 [a0, a1, a2, a3, a4, a5, a6, a7, a8, a9, a10] [] f m else zex zTb d zqX10_chain 80 [a0, a1, a2, a3, a4, a5, a6, a7, a8, a9, a10] [] f m := (zx_if (tgt := 89) zh_X10_chain_77 rfl)
theorem ze_X10_chain_80 {d : Nat} {f : zF} {m : zM} {a0 a1 a2 a3 a4 a5 a7 a9 : Value} {x6 : Int64} {x8 x10 : Int32} : zex zTb d zqX10_chain 80 [a0, a1, a2, a3, a4, a5, .long x6, a7, .int x8, a9, .int x10] [] f m = zex zTb d zqX10_chain 34 [a0, a1, a2, a3, a4, (zclr a5), .long (x6 ||| ((J 1) <<< (x8.toInt64 &&& 63))), .null, .int x8, (zclr a9), .int (x10 + I 1)] [] f m := (zxl_go (x := (82, [a0, a1, a2, a3, a4, a5, .long x6, a7, .int x8, a9, .int x10], [.long x6], f, m)) zh_X10_chain_80 rfl).trans ((zx_lconst (v := 1) zh_X10_chain_82 (by decide)).trans ((zxl_go (x := (85, [a0, a1, a2, a3, a4, a5, .long x6, a7, .int x8, a9, .int x10], [.int x8, .long (J 1), .long x6], f, m)) zh_X10_chain_83 rfl).trans ((zxl_go (x := (86, [a0, a1, a2, a3, a4, a5, .long x6, a7, .int x8, a9, .int x10], [.long ((J 1) <<< (x8.toInt64 &&& 63)), .long x6], f, m)) zh_X10_chain_85 rfl).trans ((zxl_go (x := (87, [a0, a1, a2, a3, a4, a5, .long x6, a7, .int x8, a9, .int x10], [.long (x6 ||| ((J 1) <<< (x8.toInt64 &&& 63)))], f, m)) zh_X10_chain_86 rfl).trans ((zxl_go (x := (89, [a0, a1, a2, a3, a4, (zclr a5), .long (x6 ||| ((J 1) <<< (x8.toInt64 &&& 63))), .null, .int x8, a9, .int x10], [], f, m)) zh_X10_chain_87 rfl).trans ((zxl_go (x := (92, [a0, a1, a2, a3, a4, (zclr a5), .long (x6 ||| ((J 1) <<< (x8.toInt64 &&& 63))), .null, .int x8, (zclr a9), .int (x10 + I 1)], [], f, m)) zh_X10_chain_89 rfl).trans ((zx_goto zh_X10_chain_92 rfl))))))))
theorem ze_X10_chain_89 {d : Nat} {f : zF} {m : zM} {a0 a1 a2 a3 a4 a5 a6 a7 a8 a9 : Value} {x10 : Int32} : zex zTb d zqX10_chain 89 [a0, a1, a2, a3, a4, a5, a6, a7, a8, a9, .int x10] [] f m = zex zTb d zqX10_chain 34 [a0, a1, a2, a3, a4, a5, a6, a7, a8, (zclr a9), .int (x10 + I 1)] [] f m := (zxl_go (x := (92, [a0, a1, a2, a3, a4, a5, a6, a7, a8, (zclr a9), .int (x10 + I 1)], [], f, m)) zh_X10_chain_89 rfl).trans ((zx_goto zh_X10_chain_92 rfl))
theorem ze_X10_chain_95 {d : Nat} {f : zF} {m : zM} {a0 a1 a2 a3 a4 a5 a6 a7 a9 a10 : Value} {x8 : Int32} : zex zTb d zqX10_chain 95 [a0, a1, a2, a3, a4, a5, a6, a7, .int x8, a9, a10] [] f m = zex zTb d zqX10_chain 6 [a0, a1, a2, a3, a4, a5, a6, (zclr a7), .int (x8 + I 1), a9, a10] [] f m := (zxl_go (x := (98, [a0, a1, a2, a3, a4, a5, a6, (zclr a7), .int (x8 + I 1), a9, a10], [], f, m)) zh_X10_chain_95 rfl).trans ((zx_goto zh_X10_chain_98 rfl))
theorem ze_X10_chain_101 {d : Nat} {f : zF} {m : zM} {a0 a1 a2 a3 a4 a5 a7 a8 a9 a10 : Value} {x6 : Int64} : zex zTb d zqX10_chain 101 [a0, a1, a2, a3, a4, a5, .long x6, a7, a8, a9, a10] [] f m = some (.inl (some (.long x6)), f, m) := (zxl_go (x := (103, [a0, a1, a2, a3, a4, a5, .long x6, a7, a8, a9, a10], [.long x6], f, m)) zh_X10_chain_101 rfl).trans ((zx_lret zh_X10_chain_103 rfl))
