/-! STARTS of the methods -/
theorem zt_X0_init : zTb[0]? = some zqX0_init := rfl
theorem zs_X0_init {d : Nat} {f : zF} {m : zM} {x0 : Nat} : zrun zTb (d + 1) 0 [.ref x0] f m = zex zTb d zqX0_init 0 [.ref x0] [] f m := zrun_ex zt_X0_init rfl (Nat.le_of_ble_eq_true rfl)
theorem zt_X0_read : zTb[1]? = some zqX0_read := rfl
theorem zs_X0_read {d : Nat} {f : zF} {m : zM} {x0 : Nat} {x1 : Nat} : zrun zTb (d + 1) 1 [.ref x0, .ref x1] f m = zex zTb d zqX0_read 0 [.ref x0, .ref x1, .null, .null, .null, .null, .null, .null] [] f m := zrun_ex zt_X0_read rfl (Nat.le_of_ble_eq_true rfl)
theorem zt_X0_append : zTb[2]? = some zqX0_append := rfl
theorem zs_X0_append {d : Nat} {f : zF} {m : zM} {x0 : Nat} {x1 : Int32} {x2 : Int32} {x3 : Int32} : zrun zTb (d + 1) 2 [.ref x0, .int x1, .int x2, .int x3] f m = zex zTb d zqX0_append 0 [.ref x0, .int x1, .int x2, .int x3] [] f m := zrun_ex zt_X0_append rfl (Nat.le_of_ble_eq_true rfl)
theorem zt_X0_fillRow : zTb[3]? = some zqX0_fillRow := rfl
theorem zs_X0_fillRow {d : Nat} {f : zF} {m : zM} {x0 : Nat} {x1 : Int64} {x3 : Nat} : zrun zTb (d + 1) 3 [.ref x0, .long x1, .ref x3] f m = zex zTb d zqX0_fillRow 0 [.ref x0, .long x1, .null, .ref x3, .null, .null] [] f m := zrun_ex zt_X0_fillRow rfl (Nat.le_of_ble_eq_true rfl)
theorem zt_X1_init : zTb[4]? = some zqX1_init := rfl
theorem zs_X1_init {d : Nat} {f : zF} {m : zM} {x0 : Nat} : zrun zTb (d + 1) 4 [.ref x0] f m = zex zTb d zqX1_init 0 [.ref x0] [] f m := zrun_ex zt_X1_init rfl (Nat.le_of_ble_eq_true rfl)
theorem zt_X1_has : zTb[5]? = some zqX1_has := rfl
theorem zs_X1_has {d : Nat} {f : zF} {m : zM} {x0 : Nat} {x1 : Int32} : zrun zTb (d + 1) 5 [.ref x0, .int x1] f m = zex zTb d zqX1_has 0 [.ref x0, .int x1] [] f m := zrun_ex zt_X1_has rfl (Nat.le_of_ble_eq_true rfl)
theorem zt_X1_append : zTb[6]? = some zqX1_append := rfl
theorem zs_X1_append {d : Nat} {f : zF} {m : zM} {x0 : Nat} {x1 : Int64} {x3 : Int32} : zrun zTb (d + 1) 6 [.ref x0, .long x1, .int x3] f m = zex zTb d zqX1_append 0 [.ref x0, .long x1, .null, .int x3, .null] [] f m := zrun_ex zt_X1_append rfl (Nat.le_of_ble_eq_true rfl)
theorem zt_X1_holds : zTb[7]? = some zqX1_holds := rfl
theorem zs_X1_holds {d : Nat} {f : zF} {m : zM} {x0 : Nat} {x1 : Int64} : zrun zTb (d + 1) 7 [.ref x0, .long x1] f m = zex zTb d zqX1_holds 0 [.ref x0, .long x1, .null, .null] [] f m := zrun_ex zt_X1_holds rfl (Nat.le_of_ble_eq_true rfl)
theorem zt_X1_removeLast : zTb[8]? = some zqX1_removeLast := rfl
theorem zs_X1_removeLast {d : Nat} {f : zF} {m : zM} {x0 : Nat} : zrun zTb (d + 1) 8 [.ref x0] f m = zex zTb d zqX1_removeLast 0 [.ref x0, .null] [] f m := zrun_ex zt_X1_removeLast rfl (Nat.le_of_ble_eq_true rfl)
theorem zt_X1_tableOf : zTb[9]? = some zqX1_tableOf := rfl
theorem zs_X1_tableOf {d : Nat} {f : zF} {m : zM} {x0 : Nat} {x1 : Int32} : zrun zTb (d + 1) 9 [.ref x0, .int x1] f m = zex zTb d zqX1_tableOf 0 [.ref x0, .int x1, .null, .null, .null] [] f m := zrun_ex zt_X1_tableOf rfl (Nat.le_of_ble_eq_true rfl)
theorem zt_X2_init : zTb[10]? = some zqX2_init := rfl
theorem zs_X2_init {d : Nat} {f : zF} {m : zM} {x0 : Nat} : zrun zTb (d + 1) 10 [.ref x0] f m = zex zTb d zqX2_init 0 [.ref x0] [] f m := zrun_ex zt_X2_init rfl (Nat.le_of_ble_eq_true rfl)
theorem zt_X2_has : zTb[11]? = some zqX2_has := rfl
theorem zs_X2_has {d : Nat} {f : zF} {m : zM} {x0 : Nat} {x1 : Int32} : zrun zTb (d + 1) 11 [.ref x0, .int x1] f m = zex zTb d zqX2_has 0 [.ref x0, .int x1] [] f m := zrun_ex zt_X2_has rfl (Nat.le_of_ble_eq_true rfl)
theorem zt_X2_kindOf : zTb[12]? = some zqX2_kindOf := rfl
theorem zs_X2_kindOf {d : Nat} {f : zF} {m : zM} {x0 : Nat} {x1 : Int32} : zrun zTb (d + 1) 12 [.ref x0, .int x1] f m = zex zTb d zqX2_kindOf 0 [.ref x0, .int x1] [] f m := zrun_ex zt_X2_kindOf rfl (Nat.le_of_ble_eq_true rfl)
theorem zt_X2_letterOf : zTb[13]? = some zqX2_letterOf := rfl
theorem zs_X2_letterOf {d : Nat} {f : zF} {m : zM} {x0 : Nat} {x1 : Int32} : zrun zTb (d + 1) 13 [.ref x0, .int x1] f m = zex zTb d zqX2_letterOf 0 [.ref x0, .int x1] [] f m := zrun_ex zt_X2_letterOf rfl (Nat.le_of_ble_eq_true rfl)
theorem zt_X2_secondOf : zTb[14]? = some zqX2_secondOf := rfl
theorem zs_X2_secondOf {d : Nat} {f : zF} {m : zM} {x0 : Nat} {x1 : Int32} : zrun zTb (d + 1) 14 [.ref x0, .int x1] f m = zex zTb d zqX2_secondOf 0 [.ref x0, .int x1] [] f m := zrun_ex zt_X2_secondOf rfl (Nat.le_of_ble_eq_true rfl)
theorem zt_X2_totalCost : zTb[15]? = some zqX2_totalCost := rfl
theorem zs_X2_totalCost {d : Nat} {f : zF} {m : zM} {x0 : Nat} {x1 : Nat} : zrun zTb (d + 1) 15 [.ref x0, .ref x1] f m = zex zTb d zqX2_totalCost 0 [.ref x0, .ref x1, .null, .null, .null] [] f m := zrun_ex zt_X2_totalCost rfl (Nat.le_of_ble_eq_true rfl)
theorem zt_X2_becomeNoNodes : zTb[16]? = some zqX2_becomeNoNodes := rfl
theorem zs_X2_becomeNoNodes {d : Nat} {f : zF} {m : zM} {x0 : Nat} : zrun zTb (d + 1) 16 [.ref x0] f m = zex zTb d zqX2_becomeNoNodes 0 [.ref x0] [] f m := zrun_ex zt_X2_becomeNoNodes rfl (Nat.le_of_ble_eq_true rfl)
theorem zt_X2_append : zTb[17]? = some zqX2_append := rfl
theorem zs_X2_append {d : Nat} {f : zF} {m : zM} {x0 : Nat} {x1 : Int32} {x2 : Int32} {x3 : Int32} : zrun zTb (d + 1) 17 [.ref x0, .int x1, .int x2, .int x3] f m = zex zTb d zqX2_append 0 [.ref x0, .int x1, .int x2, .int x3] [] f m := zrun_ex zt_X2_append rfl (Nat.le_of_ble_eq_true rfl)
theorem zt_X2_becomeLeaf : zTb[18]? = some zqX2_becomeLeaf := rfl
theorem zs_X2_becomeLeaf {d : Nat} {f : zF} {m : zM} {x0 : Nat} {x1 : Int32} {x2 : Int32} : zrun zTb (d + 1) 18 [.ref x0, .int x1, .int x2] f m = zex zTb d zqX2_becomeLeaf 0 [.ref x0, .int x1, .int x2] [] f m := zrun_ex zt_X2_becomeLeaf rfl (Nat.le_of_ble_eq_true rfl)
theorem zt_X2_becomeCopy : zTb[19]? = some zqX2_becomeCopy := rfl
theorem zs_X2_becomeCopy {d : Nat} {f : zF} {m : zM} {x0 : Nat} {x1 : Nat} : zrun zTb (d + 1) 19 [.ref x0, .ref x1] f m = zex zTb d zqX2_becomeCopy 0 [.ref x0, .ref x1] [] f m := zrun_ex zt_X2_becomeCopy rfl (Nat.le_of_ble_eq_true rfl)
theorem zt_X2_becomeWrapped : zTb[20]? = some zqX2_becomeWrapped := rfl
theorem zs_X2_becomeWrapped {d : Nat} {f : zF} {m : zM} {x0 : Nat} {x1 : Int32} : zrun zTb (d + 1) 20 [.ref x0, .int x1] f m = zex zTb d zqX2_becomeWrapped 0 [.ref x0, .int x1] [] f m := zrun_ex zt_X2_becomeWrapped rfl (Nat.le_of_ble_eq_true rfl)
theorem zt_X2_becomeJoined : zTb[21]? = some zqX2_becomeJoined := rfl
theorem zs_X2_becomeJoined {d : Nat} {f : zF} {m : zM} {x0 : Nat} {x1 : Int32} {x2 : Nat} : zrun zTb (d + 1) 21 [.ref x0, .int x1, .ref x2] f m = zex zTb d zqX2_becomeJoined 0 [.ref x0, .int x1, .ref x2] [] f m := zrun_ex zt_X2_becomeJoined rfl (Nat.le_of_ble_eq_true rfl)
theorem zt_X2_appendAll : zTb[22]? = some zqX2_appendAll := rfl
theorem zs_X2_appendAll {d : Nat} {f : zF} {m : zM} {x0 : Nat} {x1 : Nat} : zrun zTb (d + 1) 22 [.ref x0, .ref x1] f m = zex zTb d zqX2_appendAll 0 [.ref x0, .ref x1, .null] [] f m := zrun_ex zt_X2_appendAll rfl (Nat.le_of_ble_eq_true rfl)
theorem zt_X2_makeRoomAhead : zTb[23]? = some zqX2_makeRoomAhead := rfl
theorem zs_X2_makeRoomAhead {d : Nat} {f : zF} {m : zM} {x0 : Nat} : zrun zTb (d + 1) 23 [.ref x0] f m = zex zTb d zqX2_makeRoomAhead 0 [.ref x0, .null] [] f m := zrun_ex zt_X2_makeRoomAhead rfl (Nat.le_of_ble_eq_true rfl)
theorem zt_X3_init : zTb[24]? = some zqX3_init := rfl
theorem zs_X3_init {d : Nat} {f : zF} {m : zM} {x0 : Nat} : zrun zTb (d + 1) 24 [.ref x0] f m = zex zTb d zqX3_init 0 [.ref x0] [] f m := zrun_ex zt_X3_init rfl (Nat.le_of_ble_eq_true rfl)
theorem zt_X3_has : zTb[25]? = some zqX3_has := rfl
theorem zs_X3_has {d : Nat} {f : zF} {m : zM} {x0 : Nat} {x1 : Int32} : zrun zTb (d + 1) 25 [.ref x0, .int x1] f m = zex zTb d zqX3_has 0 [.ref x0, .int x1] [] f m := zrun_ex zt_X3_has rfl (Nat.le_of_ble_eq_true rfl)
theorem zt_X3_becomeEmptyWord : zTb[26]? = some zqX3_becomeEmptyWord := rfl
theorem zs_X3_becomeEmptyWord {d : Nat} {f : zF} {m : zM} {x0 : Nat} : zrun zTb (d + 1) 26 [.ref x0] f m = zex zTb d zqX3_becomeEmptyWord 0 [.ref x0] [] f m := zrun_ex zt_X3_becomeEmptyWord rfl (Nat.le_of_ble_eq_true rfl)
theorem zt_X3_becomeCopy : zTb[27]? = some zqX3_becomeCopy := rfl
theorem zs_X3_becomeCopy {d : Nat} {f : zF} {m : zM} {x0 : Nat} {x1 : Nat} : zrun zTb (d + 1) 27 [.ref x0, .ref x1] f m = zex zTb d zqX3_becomeCopy 0 [.ref x0, .ref x1, .null] [] f m := zrun_ex zt_X3_becomeCopy rfl (Nat.le_of_ble_eq_true rfl)
theorem zt_X3_takeIn : zTb[28]? = some zqX3_takeIn := rfl
theorem zs_X3_takeIn {d : Nat} {f : zF} {m : zM} {x0 : Nat} {x1 : Int64} : zrun zTb (d + 1) 28 [.ref x0, .long x1] f m = zex zTb d zqX3_takeIn 0 [.ref x0, .long x1, .null, .null, .null, .null, .null, .null] [] f m := zrun_ex zt_X3_takeIn rfl (Nat.le_of_ble_eq_true rfl)
theorem zt_X3_insert : zTb[29]? = some zqX3_insert := rfl
theorem zs_X3_insert {d : Nat} {f : zF} {m : zM} {x0 : Nat} {x1 : Int64} : zrun zTb (d + 1) 29 [.ref x0, .long x1] f m = zex zTb d zqX3_insert 0 [.ref x0, .long x1, .null, .null, .null] [] f m := zrun_ex zt_X3_insert rfl (Nat.le_of_ble_eq_true rfl)
theorem zt_X3_earlierThan : zTb[30]? = some zqX3_earlierThan := rfl
theorem zs_X3_earlierThan {d : Nat} {f : zF} {m : zM} {x0 : Nat} {x1 : Int64} : zrun zTb (d + 1) 30 [.ref x0, .long x1] f m = zex zTb d zqX3_earlierThan 0 [.ref x0, .long x1, .null, .null, .null, .null] [] f m := zrun_ex zt_X3_earlierThan rfl (Nat.le_of_ble_eq_true rfl)
theorem zt_X3_placeOf : zTb[31]? = some zqX3_placeOf := rfl
theorem zs_X3_placeOf {d : Nat} {f : zF} {m : zM} {x0 : Nat} {x1 : Int64} : zrun zTb (d + 1) 31 [.ref x0, .long x1] f m = zex zTb d zqX3_placeOf 0 [.ref x0, .long x1, .null, .null] [] f m := zrun_ex zt_X3_placeOf rfl (Nat.le_of_ble_eq_true rfl)
theorem zt_X3_tableOf : zTb[32]? = some zqX3_tableOf := rfl
theorem zs_X3_tableOf {d : Nat} {f : zF} {m : zM} {x0 : Nat} {x1 : Int64} : zrun zTb (d + 1) 32 [.ref x0, .long x1] f m = zex zTb d zqX3_tableOf 0 [.ref x0, .long x1, .null, .null] [] f m := zrun_ex zt_X3_tableOf rfl (Nat.le_of_ble_eq_true rfl)
theorem zt_X4_init : zTb[33]? = some zqX4_init := rfl
theorem zs_X4_init {d : Nat} {f : zF} {m : zM} {x0 : Nat} : zrun zTb (d + 1) 33 [.ref x0] f m = zex zTb d zqX4_init 0 [.ref x0] [] f m := zrun_ex zt_X4_init rfl (Nat.le_of_ble_eq_true rfl)
theorem zt_X4_has : zTb[34]? = some zqX4_has := rfl
theorem zs_X4_has {d : Nat} {f : zF} {m : zM} {x0 : Nat} {x1 : Int32} : zrun zTb (d + 1) 34 [.ref x0, .int x1] f m = zex zTb d zqX4_has 0 [.ref x0, .int x1] [] f m := zrun_ex zt_X4_has rfl (Nat.le_of_ble_eq_true rfl)
theorem zt_X4_write : zTb[35]? = some zqX4_write := rfl
theorem zs_X4_write {d : Nat} {f : zF} {m : zM} {x0 : Nat} {x1 : Nat} : zrun zTb (d + 1) 35 [.ref x0, .ref x1] f m = zex zTb d zqX4_write 0 [.ref x0, .ref x1, .null, .null] [] f m := zrun_ex zt_X4_write rfl (Nat.le_of_ble_eq_true rfl)
theorem zt_X4_putNode : zTb[36]? = some zqX4_putNode := rfl
theorem zs_X4_putNode {d : Nat} {f : zF} {m : zM} {x0 : Nat} {x1 : Nat} {x2 : Int32} : zrun zTb (d + 1) 36 [.ref x0, .ref x1, .int x2] f m = zex zTb d zqX4_putNode 0 [.ref x0, .ref x1, .int x2] [] f m := zrun_ex zt_X4_putNode rfl (Nat.le_of_ble_eq_true rfl)
theorem zt_X4_leaveFirst : zTb[37]? = some zqX4_leaveFirst := rfl
theorem zs_X4_leaveFirst {d : Nat} {f : zF} {m : zM} {x0 : Nat} {x1 : Nat} {x2 : Int32} : zrun zTb (d + 1) 37 [.ref x0, .ref x1, .int x2] f m = zex zTb d zqX4_leaveFirst 0 [.ref x0, .ref x1, .int x2, .null, .null, .null] [] f m := zrun_ex zt_X4_leaveFirst rfl (Nat.le_of_ble_eq_true rfl)
theorem zt_X4_leaveSecond : zTb[38]? = some zqX4_leaveSecond := rfl
theorem zs_X4_leaveSecond {d : Nat} {f : zF} {m : zM} {x0 : Nat} {x1 : Nat} {x2 : Int32} : zrun zTb (d + 1) 38 [.ref x0, .ref x1, .int x2] f m = zex zTb d zqX4_leaveSecond 0 [.ref x0, .ref x1, .int x2, .null, .null, .null] [] f m := zrun_ex zt_X4_leaveSecond rfl (Nat.le_of_ble_eq_true rfl)
theorem zt_X4_leavePart : zTb[39]? = some zqX4_leavePart := rfl
theorem zs_X4_leavePart {d : Nat} {f : zF} {m : zM} {x0 : Nat} {x1 : Int32} {x2 : Int32} : zrun zTb (d + 1) 39 [.ref x0, .int x1, .int x2] f m = zex zTb d zqX4_leavePart 0 [.ref x0, .int x1, .int x2] [] f m := zrun_ex zt_X4_leavePart rfl (Nat.le_of_ble_eq_true rfl)
theorem zt_X4_leave : zTb[40]? = some zqX4_leave := rfl
theorem zs_X4_leave {d : Nat} {f : zF} {m : zM} {x0 : Nat} {x1 : Int32} : zrun zTb (d + 1) 40 [.ref x0, .int x1] f m = zex zTb d zqX4_leave 0 [.ref x0, .int x1] [] f m := zrun_ex zt_X4_leave rfl (Nat.le_of_ble_eq_true rfl)
theorem zt_X4_put : zTb[41]? = some zqX4_put := rfl
theorem zs_X4_put {d : Nat} {f : zF} {m : zM} {x0 : Nat} {x1 : Int32} : zrun zTb (d + 1) 41 [.ref x0, .int x1] f m = zex zTb d zqX4_put 0 [.ref x0, .int x1] [] f m := zrun_ex zt_X4_put rfl (Nat.le_of_ble_eq_true rfl)
theorem zt_X5_init : zTb[42]? = some zqX5_init := rfl
theorem zs_X5_init {d : Nat} {f : zF} {m : zM} {x0 : Nat} : zrun zTb (d + 1) 42 [.ref x0] f m = zex zTb d zqX5_init 0 [.ref x0] [] f m := zrun_ex zt_X5_init rfl (Nat.le_of_ble_eq_true rfl)
theorem zt_X5_run : zTb[43]? = some zqX5_run := rfl
theorem zs_X5_run {d : Nat} {f : zF} {m : zM} {x0 : Nat} {x1 : Nat} {x2 : Nat} {x3 : Int32} : zrun zTb (d + 1) 43 [.ref x0, .ref x1, .ref x2, .int x3] f m = zex zTb d zqX5_run 0 [.ref x0, .ref x1, .ref x2, .int x3, .null, .null] [] f m := zrun_ex zt_X5_run rfl (Nat.le_of_ble_eq_true rfl)
theorem zt_X5_goThrough : zTb[44]? = some zqX5_goThrough := rfl
theorem zs_X5_goThrough {d : Nat} {f : zF} {m : zM} {x0 : Nat} {x1 : Int32} {x2 : Nat} : zrun zTb (d + 1) 44 [.ref x0, .int x1, .ref x2] f m = zex zTb d zqX5_goThrough 0 [.ref x0, .int x1, .ref x2, .null, .null] [] f m := zrun_ex zt_X5_goThrough rfl (Nat.le_of_ble_eq_true rfl)
theorem zt_X5_offerLeaves : zTb[45]? = some zqX5_offerLeaves := rfl
theorem zs_X5_offerLeaves {d : Nat} {f : zF} {m : zM} {x0 : Nat} {x1 : Int32} {x2 : Nat} : zrun zTb (d + 1) 45 [.ref x0, .int x1, .ref x2] f m = zex zTb d zqX5_offerLeaves 0 [.ref x0, .int x1, .ref x2, .null, .null] [] f m := zrun_ex zt_X5_offerLeaves rfl (Nat.le_of_ble_eq_true rfl)
theorem zt_X5_offerWraps : zTb[46]? = some zqX5_offerWraps := rfl
theorem zs_X5_offerWraps {d : Nat} {f : zF} {m : zM} {x0 : Nat} {x1 : Int32} {x2 : Int32} : zrun zTb (d + 1) 46 [.ref x0, .int x1, .int x2] f m = zex zTb d zqX5_offerWraps 0 [.ref x0, .int x1, .int x2, .null, .null, .null, .null, .null] [] f m := zrun_ex zt_X5_offerWraps rfl (Nat.le_of_ble_eq_true rfl)
theorem zt_X5_offerJoins : zTb[47]? = some zqX5_offerJoins := rfl
theorem zs_X5_offerJoins {d : Nat} {f : zF} {m : zM} {x0 : Nat} {x1 : Int32} {x2 : Int32} : zrun zTb (d + 1) 47 [.ref x0, .int x1, .int x2] f m = zex zTb d zqX5_offerJoins 0 [.ref x0, .int x1, .int x2, .null, .null, .null, .null, .null, .null] [] f m := zrun_ex zt_X5_offerJoins rfl (Nat.le_of_ble_eq_true rfl)
theorem zt_X5_from : zTb[48]? = some zqX5_from := rfl
theorem zs_X5_from {d : Nat} {f : zF} {m : zM} {x0 : Nat} {x1 : Int32} : zrun zTb (d + 1) 48 [.ref x0, .int x1] f m = zex zTb d zqX5_from 0 [.ref x0, .int x1] [] f m := zrun_ex zt_X5_from rfl (Nat.le_of_ble_eq_true rfl)
theorem zt_X5_offer : zTb[49]? = some zqX5_offer := rfl
theorem zs_X5_offer {d : Nat} {f : zF} {m : zM} {x0 : Nat} {x1 : Int32} {x2 : Int32} {x3 : Int32} {x4 : Int32} {x5 : Int64} : zrun zTb (d + 1) 49 [.ref x0, .int x1, .int x2, .int x3, .int x4, .long x5] f m = zex zTb d zqX5_offer 0 [.ref x0, .int x1, .int x2, .int x3, .int x4, .long x5, .null, .null] [] f m := zrun_ex zt_X5_offer rfl (Nat.le_of_ble_eq_true rfl)
theorem zt_X6_init : zTb[50]? = some zqX6_init := rfl
theorem zs_X6_init {d : Nat} {f : zF} {m : zM} {x0 : Nat} : zrun zTb (d + 1) 50 [.ref x0] f m = zex zTb d zqX6_init 0 [.ref x0] [] f m := zrun_ex zt_X6_init rfl (Nat.le_of_ble_eq_true rfl)
theorem zt_X6_has : zTb[51]? = some zqX6_has := rfl
theorem zs_X6_has {d : Nat} {f : zF} {m : zM} {x0 : Nat} {x1 : Int32} : zrun zTb (d + 1) 51 [.ref x0, .int x1] f m = zex zTb d zqX6_has 0 [.ref x0, .int x1] [] f m := zrun_ex zt_X6_has rfl (Nat.le_of_ble_eq_true rfl)
theorem zt_X6_isFull : zTb[52]? = some zqX6_isFull := rfl
theorem zs_X6_isFull {d : Nat} {f : zF} {m : zM} {x0 : Nat} : zrun zTb (d + 1) 52 [.ref x0] f m = zex zTb d zqX6_isFull 0 [.ref x0] [] f m := zrun_ex zt_X6_isFull rfl (Nat.le_of_ble_eq_true rfl)
theorem zt_X6_becomeEmpty : zTb[53]? = some zqX6_becomeEmpty := rfl
theorem zs_X6_becomeEmpty {d : Nat} {f : zF} {m : zM} {x0 : Nat} {x1 : Nat} : zrun zTb (d + 1) 53 [.ref x0, .ref x1] f m = zex zTb d zqX6_becomeEmpty 0 [.ref x0, .ref x1, .null] [] f m := zrun_ex zt_X6_becomeEmpty rfl (Nat.le_of_ble_eq_true rfl)
theorem zt_X6_holds : zTb[54]? = some zqX6_holds := rfl
theorem zs_X6_holds {d : Nat} {f : zF} {m : zM} {x0 : Nat} {x1 : Int64} : zrun zTb (d + 1) 54 [.ref x0, .long x1] f m = zex zTb d zqX6_holds 0 [.ref x0, .long x1, .null, .null] [] f m := zrun_ex zt_X6_holds rfl (Nat.le_of_ble_eq_true rfl)
theorem zt_X6_slotOf : zTb[55]? = some zqX6_slotOf := rfl
theorem zs_X6_slotOf {d : Nat} {f : zF} {m : zM} {x0 : Nat} {x1 : Int64} : zrun zTb (d + 1) 55 [.ref x0, .long x1] f m = zex zTb d zqX6_slotOf 0 [.ref x0, .long x1, .null, .null, .null, .null, .null] [] f m := zrun_ex zt_X6_slotOf rfl (Nat.le_of_ble_eq_true rfl)
theorem zt_X6_append : zTb[56]? = some zqX6_append := rfl
theorem zs_X6_append {d : Nat} {f : zF} {m : zM} {x0 : Nat} {x1 : Int32} {x2 : Int32} {x3 : Int32} {x4 : Int32} {x5 : Int64} : zrun zTb (d + 1) 56 [.ref x0, .int x1, .int x2, .int x3, .int x4, .long x5] f m = zex zTb d zqX6_append 0 [.ref x0, .int x1, .int x2, .int x3, .int x4, .long x5, .null, .null] [] f m := zrun_ex zt_X6_append rfl (Nat.le_of_ble_eq_true rfl)
theorem zt_X6_nodesOf : zTb[57]? = some zqX6_nodesOf := rfl
theorem zs_X6_nodesOf {d : Nat} {f : zF} {m : zM} {x0 : Nat} {x1 : Int32} : zrun zTb (d + 1) 57 [.ref x0, .int x1] f m = zex zTb d zqX6_nodesOf 0 [.ref x0, .int x1] [] f m := zrun_ex zt_X6_nodesOf rfl (Nat.le_of_ble_eq_true rfl)
theorem zt_X6_totalOf : zTb[58]? = some zqX6_totalOf := rfl
theorem zs_X6_totalOf {d : Nat} {f : zF} {m : zM} {x0 : Nat} {x1 : Int32} : zrun zTb (d + 1) 58 [.ref x0, .int x1] f m = zex zTb d zqX6_totalOf 0 [.ref x0, .int x1] [] f m := zrun_ex zt_X6_totalOf rfl (Nat.le_of_ble_eq_true rfl)
theorem zt_X6_tableOf : zTb[59]? = some zqX6_tableOf := rfl
theorem zs_X6_tableOf {d : Nat} {f : zF} {m : zM} {x0 : Nat} {x1 : Int32} : zrun zTb (d + 1) 59 [.ref x0, .int x1] f m = zex zTb d zqX6_tableOf 0 [.ref x0, .int x1] [] f m := zrun_ex zt_X6_tableOf rfl (Nat.le_of_ble_eq_true rfl)
theorem zt_X6_lastTable : zTb[60]? = some zqX6_lastTable := rfl
theorem zs_X6_lastTable {d : Nat} {f : zF} {m : zM} {x0 : Nat} : zrun zTb (d + 1) 60 [.ref x0] f m = zex zTb d zqX6_lastTable 0 [.ref x0] [] f m := zrun_ex zt_X6_lastTable rfl (Nat.le_of_ble_eq_true rfl)
theorem zt_X6_repeatTable : zTb[61]? = some zqX6_repeatTable := rfl
theorem zs_X6_repeatTable {d : Nat} {f : zF} {m : zM} {x0 : Nat} {x1 : Int32} : zrun zTb (d + 1) 61 [.ref x0, .int x1] f m = zex zTb d zqX6_repeatTable 0 [.ref x0, .int x1, .null, .null, .null] [] f m := zrun_ex zt_X6_repeatTable rfl (Nat.le_of_ble_eq_true rfl)
theorem zt_X6_chainTable : zTb[62]? = some zqX6_chainTable := rfl
theorem zs_X6_chainTable {d : Nat} {f : zF} {m : zM} {x0 : Nat} {x1 : Int32} {x2 : Int32} : zrun zTb (d + 1) 62 [.ref x0, .int x1, .int x2] f m = zex zTb d zqX6_chainTable 0 [.ref x0, .int x1, .int x2, .null, .null, .null] [] f m := zrun_ex zt_X6_chainTable rfl (Nat.le_of_ble_eq_true rfl)
theorem zt_X6_unroll : zTb[63]? = some zqX6_unroll := rfl
theorem zs_X6_unroll {d : Nat} {f : zF} {m : zM} {x0 : Nat} {x1 : Nat} : zrun zTb (d + 1) 63 [.ref x0, .ref x1] f m = zex zTb d zqX6_unroll 0 [.ref x0, .ref x1, .null, .null, .null, .null] [] f m := zrun_ex zt_X6_unroll rfl (Nat.le_of_ble_eq_true rfl)
theorem zt_X7_init : zTb[64]? = some zqX7_init := rfl
theorem zs_X7_init {d : Nat} {f : zF} {m : zM} {x0 : Nat} : zrun zTb (d + 1) 64 [.ref x0] f m = zex zTb d zqX7_init 0 [.ref x0] [] f m := zrun_ex zt_X7_init rfl (Nat.le_of_ble_eq_true rfl)
theorem zt_X7_fits : zTb[65]? = some zqX7_fits := rfl
theorem zs_X7_fits {d : Nat} {f : zF} {m : zM} {x0 : Nat} {x1 : Nat} {x2 : Int64} : zrun zTb (d + 1) 65 [.ref x0, .ref x1, .long x2] f m = zex zTb d zqX7_fits 0 [.ref x0, .ref x1, .long x2, .null, .null, .null] [] f m := zrun_ex zt_X7_fits rfl (Nat.le_of_ble_eq_true rfl)
theorem zt_X7_spell : zTb[66]? = some zqX7_spell := rfl
theorem zs_X7_spell {d : Nat} {f : zF} {m : zM} {x0 : Nat} {x1 : Int64} : zrun zTb (d + 1) 66 [.ref x0, .long x1] f m = zex zTb d zqX7_spell 0 [.ref x0, .long x1, .null, .null] [] f m := zrun_ex zt_X7_spell rfl (Nat.le_of_ble_eq_true rfl)
theorem zt_X7_endsOf : zTb[67]? = some zqX7_endsOf := rfl
theorem zs_X7_endsOf {d : Nat} {f : zF} {m : zM} {x0 : Nat} {x1 : Nat} {x2 : Int32} {x3 : Int32} : zrun zTb (d + 1) 67 [.ref x0, .ref x1, .int x2, .int x3] f m = zex zTb d zqX7_endsOf 0 [.ref x0, .ref x1, .int x2, .int x3, .null, .null] [] f m := zrun_ex zt_X7_endsOf rfl (Nat.le_of_ble_eq_true rfl)
theorem zt_X7_endsFrom : zTb[68]? = some zqX7_endsFrom := rfl
theorem zs_X7_endsFrom {d : Nat} {f : zF} {m : zM} {x0 : Nat} {x1 : Int32} {x2 : Int32} : zrun zTb (d + 1) 68 [.ref x0, .int x1, .int x2] f m = zex zTb d zqX7_endsFrom 0 [.ref x0, .int x1, .int x2, .null] [] f m := zrun_ex zt_X7_endsFrom rfl (Nat.le_of_ble_eq_true rfl)
theorem zt_X7_endsBehind : zTb[69]? = some zqX7_endsBehind := rfl
theorem zs_X7_endsBehind {d : Nat} {f : zF} {m : zM} {x0 : Nat} {x1 : Int32} {x2 : Int32} : zrun zTb (d + 1) 69 [.ref x0, .int x1, .int x2] f m = zex zTb d zqX7_endsBehind 0 [.ref x0, .int x1, .int x2, .null, .null] [] f m := zrun_ex zt_X7_endsBehind rfl (Nat.le_of_ble_eq_true rfl)
theorem zt_X8_isLetter : zTb[70]? = some zqX8_isLetter := rfl
theorem zs_X8_isLetter {d : Nat} {f : zF} {m : zM} {x0 : Int32} : zrun zTb (d + 1) 70 [.int x0] f m = zex zTb d zqX8_isLetter 0 [.int x0] [] f m := zrun_ex zt_X8_isLetter rfl (Nat.le_of_ble_eq_true rfl)
theorem zt_X8_isWord : zTb[71]? = some zqX8_isWord := rfl
theorem zs_X8_isWord {d : Nat} {f : zF} {m : zM} {x0 : Int64} : zrun zTb (d + 1) 71 [.long x0] f m = zex zTb d zqX8_isWord 0 [.long x0, .null, .null, .null, .null] [] f m := zrun_ex zt_X8_isWord rfl (Nat.le_of_ble_eq_true rfl)
theorem zt_X8_packed : zTb[72]? = some zqX8_packed := rfl
theorem zs_X8_packed {d : Nat} {f : zF} {m : zM} {x0 : Int64} : zrun zTb (d + 1) 72 [.long x0] f m = zex zTb d zqX8_packed 0 [.long x0, .null, .null, .null, .null, .null, .null] [] f m := zrun_ex zt_X8_packed rfl (Nat.le_of_ble_eq_true rfl)
theorem zt_X8_lengthOf : zTb[73]? = some zqX8_lengthOf := rfl
theorem zs_X8_lengthOf {d : Nat} {f : zF} {m : zM} {x0 : Int64} : zrun zTb (d + 1) 73 [.long x0] f m = zex zTb d zqX8_lengthOf 0 [.long x0, .null, .null, .null] [] f m := zrun_ex zt_X8_lengthOf rfl (Nat.le_of_ble_eq_true rfl)
theorem zt_X8_ending : zTb[74]? = some zqX8_ending := rfl
theorem zs_X8_ending {d : Nat} {f : zF} {m : zM} {x0 : Int64} {x2 : Int32} : zrun zTb (d + 1) 74 [.long x0, .int x2] f m = zex zTb d zqX8_ending 0 [.long x0, .null, .int x2] [] f m := zrun_ex zt_X8_ending rfl (Nat.le_of_ble_eq_true rfl)
theorem zt_X8_placeOfFirst : zTb[75]? = some zqX8_placeOfFirst := rfl
theorem zs_X8_placeOfFirst {d : Nat} {f : zF} {m : zM} {x0 : Int32} : zrun zTb (d + 1) 75 [.int x0] f m = zex zTb d zqX8_placeOfFirst 0 [.int x0, .null, .null] [] f m := zrun_ex zt_X8_placeOfFirst rfl (Nat.le_of_ble_eq_true rfl)
theorem zt_X8_atPlace : zTb[76]? = some zqX8_atPlace := rfl
theorem zs_X8_atPlace {d : Nat} {f : zF} {m : zM} {x0 : Int32} : zrun zTb (d + 1) 76 [.int x0] f m = zex zTb d zqX8_atPlace 0 [.int x0, .null, .null, .null, .null, .null, .null] [] f m := zrun_ex zt_X8_atPlace rfl (Nat.le_of_ble_eq_true rfl)
theorem zt_X9_init : zTb[77]? = some zqX9_init := rfl
theorem zs_X9_init {d : Nat} {f : zF} {m : zM} {x0 : Nat} : zrun zTb (d + 1) 77 [.ref x0] f m = zex zTb d zqX9_init 0 [.ref x0, .null] [] f m := zrun_ex zt_X9_init rfl (Nat.le_of_ble_eq_true rfl)
theorem zt_X9_add : zTb[78]? = some zqX9_add := rfl
theorem zs_X9_add {d : Nat} {f : zF} {m : zM} {x0 : Nat} {x1 : Int64} {x3 : Int32} : zrun zTb (d + 1) 78 [.ref x0, .long x1, .int x3] f m = zex zTb d zqX9_add 0 [.ref x0, .long x1, .null, .int x3] [] f m := zrun_ex zt_X9_add rfl (Nat.le_of_ble_eq_true rfl)
theorem zt_X9_mark : zTb[79]? = some zqX9_mark := rfl
theorem zs_X9_mark {d : Nat} {f : zF} {m : zM} {x0 : Nat} {x1 : Int32} {x2 : Int32} : zrun zTb (d + 1) 79 [.ref x0, .int x1, .int x2] f m = zex zTb d zqX9_mark 0 [.ref x0, .int x1, .int x2, .null] [] f m := zrun_ex zt_X9_mark rfl (Nat.le_of_ble_eq_true rfl)
theorem zt_X9_drop : zTb[80]? = some zqX9_drop := rfl
theorem zs_X9_drop {d : Nat} {f : zF} {m : zM} {x0 : Nat} : zrun zTb (d + 1) 80 [.ref x0] f m = zex zTb d zqX9_drop 0 [.ref x0] [] f m := zrun_ex zt_X9_drop rfl (Nat.le_of_ble_eq_true rfl)
theorem zt_X9_setCost : zTb[81]? = some zqX9_setCost := rfl
theorem zs_X9_setCost {d : Nat} {f : zF} {m : zM} {x0 : Nat} {x1 : Int32} {x2 : Int32} : zrun zTb (d + 1) 81 [.ref x0, .int x1, .int x2] f m = zex zTb d zqX9_setCost 0 [.ref x0, .int x1, .int x2, .null] [] f m := zrun_ex zt_X9_setCost rfl (Nat.le_of_ble_eq_true rfl)
theorem zt_X9_exampleCount : zTb[82]? = some zqX9_exampleCount := rfl
theorem zs_X9_exampleCount {d : Nat} {f : zF} {m : zM} {x0 : Nat} : zrun zTb (d + 1) 82 [.ref x0] f m = zex zTb d zqX9_exampleCount 0 [.ref x0] [] f m := zrun_ex zt_X9_exampleCount rfl (Nat.le_of_ble_eq_true rfl)
theorem zt_X9_example : zTb[83]? = some zqX9_example := rfl
theorem zs_X9_example {d : Nat} {f : zF} {m : zM} {x0 : Nat} {x1 : Int32} : zrun zTb (d + 1) 83 [.ref x0, .int x1] f m = zex zTb d zqX9_example 0 [.ref x0, .int x1] [] f m := zrun_ex zt_X9_example rfl (Nat.le_of_ble_eq_true rfl)
theorem zt_X9_isGood : zTb[84]? = some zqX9_isGood := rfl
theorem zs_X9_isGood {d : Nat} {f : zF} {m : zM} {x0 : Nat} {x1 : Int32} : zrun zTb (d + 1) 84 [.ref x0, .int x1] f m = zex zTb d zqX9_isGood 0 [.ref x0, .int x1] [] f m := zrun_ex zt_X9_isGood rfl (Nat.le_of_ble_eq_true rfl)
theorem zt_X9_pieceCount : zTb[85]? = some zqX9_pieceCount := rfl
theorem zs_X9_pieceCount {d : Nat} {f : zF} {m : zM} {x0 : Nat} : zrun zTb (d + 1) 85 [.ref x0] f m = zex zTb d zqX9_pieceCount 0 [.ref x0] [] f m := zrun_ex zt_X9_pieceCount rfl (Nat.le_of_ble_eq_true rfl)
theorem zt_X9_piece : zTb[86]? = some zqX9_piece := rfl
theorem zs_X9_piece {d : Nat} {f : zF} {m : zM} {x0 : Nat} {x1 : Int32} : zrun zTb (d + 1) 86 [.ref x0, .int x1] f m = zex zTb d zqX9_piece 0 [.ref x0, .int x1] [] f m := zrun_ex zt_X9_piece rfl (Nat.le_of_ble_eq_true rfl)
theorem zt_X9_look : zTb[87]? = some zqX9_look := rfl
theorem zs_X9_look {d : Nat} {f : zF} {m : zM} {x0 : Nat} {x1 : Int32} : zrun zTb (d + 1) 87 [.ref x0, .int x1] f m = zex zTb d zqX9_look 0 [.ref x0, .int x1, .null] [] f m := zrun_ex zt_X9_look rfl (Nat.le_of_ble_eq_true rfl)
theorem zt_X9_kept : zTb[88]? = some zqX9_kept := rfl
theorem zs_X9_kept {d : Nat} {f : zF} {m : zM} {x0 : Nat} : zrun zTb (d + 1) 88 [.ref x0] f m = zex zTb d zqX9_kept 0 [.ref x0] [] f m := zrun_ex zt_X9_kept rfl (Nat.le_of_ble_eq_true rfl)
theorem zt_X9_isFound : zTb[89]? = some zqX9_isFound := rfl
theorem zs_X9_isFound {d : Nat} {f : zF} {m : zM} {x0 : Nat} : zrun zTb (d + 1) 89 [.ref x0] f m = zex zTb d zqX9_isFound 0 [.ref x0] [] f m := zrun_ex zt_X9_isFound rfl (Nat.le_of_ble_eq_true rfl)
theorem zt_X9_nodeCount : zTb[90]? = some zqX9_nodeCount := rfl
theorem zs_X9_nodeCount {d : Nat} {f : zF} {m : zM} {x0 : Nat} : zrun zTb (d + 1) 90 [.ref x0] f m = zex zTb d zqX9_nodeCount 0 [.ref x0] [] f m := zrun_ex zt_X9_nodeCount rfl (Nat.le_of_ble_eq_true rfl)
theorem zt_X9_kind : zTb[91]? = some zqX9_kind := rfl
theorem zs_X9_kind {d : Nat} {f : zF} {m : zM} {x0 : Nat} {x1 : Int32} : zrun zTb (d + 1) 91 [.ref x0, .int x1] f m = zex zTb d zqX9_kind 0 [.ref x0, .int x1] [] f m := zrun_ex zt_X9_kind rfl (Nat.le_of_ble_eq_true rfl)
theorem zt_X9_part : zTb[92]? = some zqX9_part := rfl
theorem zs_X9_part {d : Nat} {f : zF} {m : zM} {x0 : Nat} {x1 : Int32} {x2 : Int32} : zrun zTb (d + 1) 92 [.ref x0, .int x1, .int x2] f m = zex zTb d zqX9_part 0 [.ref x0, .int x1, .int x2, .null] [] f m := zrun_ex zt_X9_part rfl (Nat.le_of_ble_eq_true rfl)
theorem zt_X9_textSize : zTb[93]? = some zqX9_textSize := rfl
theorem zs_X9_textSize {d : Nat} {f : zF} {m : zM} {x0 : Nat} : zrun zTb (d + 1) 93 [.ref x0] f m = zex zTb d zqX9_textSize 0 [.ref x0] [] f m := zrun_ex zt_X9_textSize rfl (Nat.le_of_ble_eq_true rfl)
theorem zt_X9_text : zTb[94]? = some zqX9_text := rfl
theorem zs_X9_text {d : Nat} {f : zF} {m : zM} {x0 : Nat} {x1 : Int32} : zrun zTb (d + 1) 94 [.ref x0, .int x1] f m = zex zTb d zqX9_text 0 [.ref x0, .int x1] [] f m := zrun_ex zt_X9_text rfl (Nat.le_of_ble_eq_true rfl)
theorem zt_X9_matches : zTb[95]? = some zqX9_matches := rfl
theorem zs_X9_matches {d : Nat} {f : zF} {m : zM} {x0 : Nat} {x1 : Int64} : zrun zTb (d + 1) 95 [.ref x0, .long x1] f m = zex zTb d zqX9_matches 0 [.ref x0, .long x1, .null] [] f m := zrun_ex zt_X9_matches rfl (Nat.le_of_ble_eq_true rfl)
theorem zt_X9_count : zTb[96]? = some zqX9_count := rfl
theorem zs_X9_count {d : Nat} {f : zF} {m : zM} {x0 : Nat} {x1 : Int32} : zrun zTb (d + 1) 96 [.ref x0, .int x1] f m = zex zTb d zqX9_count 0 [.ref x0, .int x1, .null, .null] [] f m := zrun_ex zt_X9_count rfl (Nat.le_of_ble_eq_true rfl)
theorem zt_X9_first : zTb[97]? = some zqX9_first := rfl
theorem zs_X9_first {d : Nat} {f : zF} {m : zM} {x0 : Nat} : zrun zTb (d + 1) 97 [.ref x0] f m = zex zTb d zqX9_first 0 [.ref x0, .null, .null, .null] [] f m := zrun_ex zt_X9_first rfl (Nat.le_of_ble_eq_true rfl)
theorem zt_X9_share : zTb[98]? = some zqX9_share := rfl
theorem zs_X9_share {d : Nat} {f : zF} {m : zM} {x0 : Nat} : zrun zTb (d + 1) 98 [.ref x0] f m = zex zTb d zqX9_share 0 [.ref x0, .null] [] f m := zrun_ex zt_X9_share rfl (Nat.le_of_ble_eq_true rfl)
theorem zt_X9_needFound : zTb[99]? = some zqX9_needFound := rfl
theorem zs_X9_needFound {d : Nat} {f : zF} {m : zM} {x0 : Nat} : zrun zTb (d + 1) 99 [.ref x0] f m = zex zTb d zqX9_needFound 0 [.ref x0] [] f m := zrun_ex zt_X9_needFound rfl (Nat.le_of_ble_eq_true rfl)
theorem zt_X9_needNode : zTb[100]? = some zqX9_needNode := rfl
theorem zs_X9_needNode {d : Nat} {f : zF} {m : zM} {x0 : Nat} {x1 : Int32} : zrun zTb (d + 1) 100 [.ref x0, .int x1] f m = zex zTb d zqX9_needNode 0 [.ref x0, .int x1] [] f m := zrun_ex zt_X9_needNode rfl (Nat.le_of_ble_eq_true rfl)
theorem zt_X9_needWord : zTb[101]? = some zqX9_needWord := rfl
theorem zs_X9_needWord {d : Nat} {f : zF} {m : zM} {x0 : Int64} : zrun zTb (d + 1) 101 [.long x0] f m = zex zTb d zqX9_needWord 0 [.long x0, .null] [] f m := zrun_ex zt_X9_needWord rfl (Nat.le_of_ble_eq_true rfl)
theorem zt_X9_push : zTb[102]? = some zqX9_push := rfl
theorem zs_X9_push {d : Nat} {f : zF} {m : zM} {x0 : Nat} {x1 : Int32} {x2 : Int32} : zrun zTb (d + 1) 102 [.ref x0, .int x1, .int x2] f m = zex zTb d zqX9_push 0 [.ref x0, .int x1, .int x2] [] f m := zrun_ex zt_X9_push rfl (Nat.le_of_ble_eq_true rfl)
theorem zt_X9_wrap : zTb[103]? = some zqX9_wrap := rfl
theorem zs_X9_wrap {d : Nat} {f : zF} {m : zM} {x0 : Nat} {x1 : Int32} : zrun zTb (d + 1) 103 [.ref x0, .int x1] f m = zex zTb d zqX9_wrap 0 [.ref x0, .int x1, .null] [] f m := zrun_ex zt_X9_wrap rfl (Nat.le_of_ble_eq_true rfl)
theorem zt_X9_join : zTb[104]? = some zqX9_join := rfl
theorem zs_X9_join {d : Nat} {f : zF} {m : zM} {x0 : Nat} {x1 : Int32} : zrun zTb (d + 1) 104 [.ref x0, .int x1] f m = zex zTb d zqX9_join 0 [.ref x0, .int x1, .null, .null] [] f m := zrun_ex zt_X9_join rfl (Nat.le_of_ble_eq_true rfl)
theorem zt_X9_take : zTb[105]? = some zqX9_take := rfl
theorem zs_X9_take {d : Nat} {f : zF} {m : zM} {x0 : Nat} : zrun zTb (d + 1) 105 [.ref x0] f m = zex zTb d zqX9_take 0 [.ref x0] [] f m := zrun_ex zt_X9_take rfl (Nat.le_of_ble_eq_true rfl)
theorem zt_X9_pop : zTb[106]? = some zqX9_pop := rfl
theorem zs_X9_pop {d : Nat} {f : zF} {m : zM} {x0 : Nat} : zrun zTb (d + 1) 106 [.ref x0] f m = zex zTb d zqX9_pop 0 [.ref x0] [] f m := zrun_ex zt_X9_pop rfl (Nat.le_of_ble_eq_true rfl)
theorem zt_X9_topCost : zTb[107]? = some zqX9_topCost := rfl
theorem zs_X9_topCost {d : Nat} {f : zF} {m : zM} {x0 : Nat} : zrun zTb (d + 1) 107 [.ref x0] f m = zex zTb d zqX9_topCost 0 [.ref x0] [] f m := zrun_ex zt_X9_topCost rfl (Nat.le_of_ble_eq_true rfl)
theorem zt_X9_topMatches : zTb[108]? = some zqX9_topMatches := rfl
theorem zs_X9_topMatches {d : Nat} {f : zF} {m : zM} {x0 : Nat} {x1 : Int64} : zrun zTb (d + 1) 108 [.ref x0, .long x1] f m = zex zTb d zqX9_topMatches 0 [.ref x0, .long x1, .null, .null] [] f m := zrun_ex zt_X9_topMatches rfl (Nat.le_of_ble_eq_true rfl)
theorem zt_X9_topWrong : zTb[109]? = some zqX9_topWrong := rfl
theorem zs_X9_topWrong {d : Nat} {f : zF} {m : zM} {x0 : Nat} : zrun zTb (d + 1) 109 [.ref x0] f m = zex zTb d zqX9_topWrong 0 [.ref x0, .null, .null, .null] [] f m := zrun_ex zt_X9_topWrong rfl (Nat.le_of_ble_eq_true rfl)
theorem zt_X9_needTop : zTb[110]? = some zqX9_needTop := rfl
theorem zs_X9_needTop {d : Nat} {f : zF} {m : zM} {x0 : Nat} : zrun zTb (d + 1) 110 [.ref x0] f m = zex zTb d zqX9_needTop 0 [.ref x0] [] f m := zrun_ex zt_X9_needTop rfl (Nat.le_of_ble_eq_true rfl)
theorem zt_X9_digest : zTb[111]? = some zqX9_digest := rfl
theorem zs_X9_digest {d : Nat} {f : zF} {m : zM} {x0 : Nat} : zrun zTb (d + 1) 111 [.ref x0] f m = zex zTb d zqX9_digest 0 [.ref x0, .null, .null, .null] [] f m := zrun_ex zt_X9_digest rfl (Nat.le_of_ble_eq_true rfl)
theorem zt_X10_init : zTb[112]? = some zqX10_init := rfl
theorem zs_X10_init {d : Nat} {f : zF} {m : zM} {x0 : Nat} : zrun zTb (d + 1) 112 [.ref x0] f m = zex zTb d zqX10_init 0 [.ref x0] [] f m := zrun_ex zt_X10_init rfl (Nat.le_of_ble_eq_true rfl)
theorem zt_X10_thrown : zTb[113]? = some zqX10_thrown := rfl
theorem zs_X10_thrown {d : Nat} {f : zF} {m : zM} {x0 : Nat} : zrun zTb (d + 1) 113 [.ref x0] f m = zex zTb d zqX10_thrown 0 [.ref x0] [] f m := zrun_ex zt_X10_thrown rfl (Nat.le_of_ble_eq_true rfl)
theorem zt_X10_no : zTb[114]? = some zqX10_no := rfl
theorem zs_X10_no {d : Nat} {f : zF} {m : zM} {x0 : Nat} {x1 : Int32} : zrun zTb (d + 1) 114 [.ref x0, .int x1] f m = zex zTb d zqX10_no 0 [.ref x0, .int x1] [] f m := zrun_ex zt_X10_no rfl (Nat.le_of_ble_eq_true rfl)
theorem zt_X10_isIn : zTb[115]? = some zqX10_isIn := rfl
theorem zs_X10_isIn {d : Nat} {f : zF} {m : zM} {x0 : Int32} {x1 : Int32} {x2 : Int32} : zrun zTb (d + 1) 115 [.int x0, .int x1, .int x2] f m = zex zTb d zqX10_isIn 0 [.int x0, .int x1, .int x2] [] f m := zrun_ex zt_X10_isIn rfl (Nat.le_of_ble_eq_true rfl)
theorem zt_X10_isExample : zTb[116]? = some zqX10_isExample := rfl
theorem zs_X10_isExample {d : Nat} {f : zF} {m : zM} {x0 : Nat} {x1 : Int32} : zrun zTb (d + 1) 116 [.ref x0, .int x1] f m = zex zTb d zqX10_isExample 0 [.ref x0, .int x1] [] f m := zrun_ex zt_X10_isExample rfl (Nat.le_of_ble_eq_true rfl)
theorem zt_X10_read : zTb[117]? = some zqX10_read := rfl
theorem zs_X10_read {d : Nat} {f : zF} {m : zM} {x0 : Int64} : zrun zTb (d + 1) 117 [.long x0] f m = zex zTb d zqX10_read 0 [.long x0, .null, .null, .null, .null] [] f m := zrun_ex zt_X10_read rfl (Nat.le_of_ble_eq_true rfl)
theorem zt_X10_tell : zTb[118]? = some zqX10_tell := rfl
theorem zs_X10_tell {d : Nat} {f : zF} {m : zM} {x0 : Int32} : zrun zTb (d + 1) 118 [.int x0] f m = zex zTb d zqX10_tell 0 [.int x0, .null, .null, .null] [] f m := zrun_ex zt_X10_tell rfl (Nat.le_of_ble_eq_true rfl)
theorem zt_X10_size : zTb[119]? = some zqX10_size := rfl
theorem zs_X10_size {d : Nat} {f : zF} {m : zM} {x0 : Int32} : zrun zTb (d + 1) 119 [.int x0] f m = zex zTb d zqX10_size 0 [.int x0, .null] [] f m := zrun_ex zt_X10_size rfl (Nat.le_of_ble_eq_true rfl)
theorem zt_X10_part : zTb[120]? = some zqX10_part := rfl
theorem zs_X10_part {d : Nat} {f : zF} {m : zM} {x0 : Int32} {x1 : Int32} {x2 : Int32} : zrun zTb (d + 1) 120 [.int x0, .int x1, .int x2] f m = zex zTb d zqX10_part 0 [.int x0, .int x1, .int x2] [] f m := zrun_ex zt_X10_part rfl (Nat.le_of_ble_eq_true rfl)
theorem zt_X10_countPieces : zTb[121]? = some zqX10_countPieces := rfl
theorem zs_X10_countPieces {d : Nat} {f : zF} {m : zM} {x0 : Nat} : zrun zTb (d + 1) 121 [.ref x0] f m = zex zTb d zqX10_countPieces 0 [.ref x0, .null, .null, .null, .null] [] f m := zrun_ex zt_X10_countPieces rfl (Nat.le_of_ble_eq_true rfl)
theorem zt_X10_findPieces : zTb[122]? = some zqX10_findPieces := rfl
theorem zs_X10_findPieces {d : Nat} {f : zF} {m : zM} {x0 : Nat} : zrun zTb (d + 1) 122 [.ref x0] f m = zex zTb d zqX10_findPieces 0 [.ref x0, .null, .null] [] f m := zrun_ex zt_X10_findPieces rfl (Nat.le_of_ble_eq_true rfl)
theorem zt_X10_add : zTb[123]? = some zqX10_add := rfl
theorem zs_X10_add {d : Nat} {f : zF} {m : zM} {x0 : Nat} {x1 : Int64} {x3 : Int32} : zrun zTb (d + 1) 123 [.ref x0, .long x1, .int x3] f m = zex zTb d zqX10_add 0 [.ref x0, .long x1, .null, .int x3, .null, .null] [] f m := zrun_ex zt_X10_add rfl (Nat.le_of_ble_eq_true rfl)
theorem zt_X10_mark : zTb[124]? = some zqX10_mark := rfl
theorem zs_X10_mark {d : Nat} {f : zF} {m : zM} {x0 : Nat} {x1 : Int32} {x2 : Int32} : zrun zTb (d + 1) 124 [.ref x0, .int x1, .int x2] f m = zex zTb d zqX10_mark 0 [.ref x0, .int x1, .int x2, .null] [] f m := zrun_ex zt_X10_mark rfl (Nat.le_of_ble_eq_true rfl)
theorem zt_X10_drop : zTb[125]? = some zqX10_drop := rfl
theorem zs_X10_drop {d : Nat} {f : zF} {m : zM} {x0 : Nat} : zrun zTb (d + 1) 125 [.ref x0] f m = zex zTb d zqX10_drop 0 [.ref x0] [] f m := zrun_ex zt_X10_drop rfl (Nat.le_of_ble_eq_true rfl)
theorem zt_X10_setCost : zTb[126]? = some zqX10_setCost := rfl
theorem zs_X10_setCost {d : Nat} {f : zF} {m : zM} {x0 : Nat} {x1 : Int32} {x2 : Int32} : zrun zTb (d + 1) 126 [.ref x0, .int x1, .int x2] f m = zex zTb d zqX10_setCost 0 [.ref x0, .int x1, .int x2, .null] [] f m := zrun_ex zt_X10_setCost rfl (Nat.le_of_ble_eq_true rfl)
theorem zt_X10_exampleCount : zTb[127]? = some zqX10_exampleCount := rfl
theorem zs_X10_exampleCount {d : Nat} {f : zF} {m : zM} {x0 : Nat} : zrun zTb (d + 1) 127 [.ref x0] f m = zex zTb d zqX10_exampleCount 0 [.ref x0] [] f m := zrun_ex zt_X10_exampleCount rfl (Nat.le_of_ble_eq_true rfl)
theorem zt_X10_example : zTb[128]? = some zqX10_example := rfl
theorem zs_X10_example {d : Nat} {f : zF} {m : zM} {x0 : Nat} {x1 : Int32} : zrun zTb (d + 1) 128 [.ref x0, .int x1] f m = zex zTb d zqX10_example 0 [.ref x0, .int x1] [] f m := zrun_ex zt_X10_example rfl (Nat.le_of_ble_eq_true rfl)
theorem zt_X10_isGood : zTb[129]? = some zqX10_isGood := rfl
theorem zs_X10_isGood {d : Nat} {f : zF} {m : zM} {x0 : Nat} {x1 : Int32} : zrun zTb (d + 1) 129 [.ref x0, .int x1] f m = zex zTb d zqX10_isGood 0 [.ref x0, .int x1] [] f m := zrun_ex zt_X10_isGood rfl (Nat.le_of_ble_eq_true rfl)
theorem zt_X10_pieceCount : zTb[130]? = some zqX10_pieceCount := rfl
theorem zs_X10_pieceCount {d : Nat} {f : zF} {m : zM} {x0 : Nat} : zrun zTb (d + 1) 130 [.ref x0] f m = zex zTb d zqX10_pieceCount 0 [.ref x0] [] f m := zrun_ex zt_X10_pieceCount rfl (Nat.le_of_ble_eq_true rfl)
theorem zt_X10_piece : zTb[131]? = some zqX10_piece := rfl
theorem zs_X10_piece {d : Nat} {f : zF} {m : zM} {x0 : Nat} {x1 : Int32} : zrun zTb (d + 1) 131 [.ref x0, .int x1] f m = zex zTb d zqX10_piece 0 [.ref x0, .int x1] [] f m := zrun_ex zt_X10_piece rfl (Nat.le_of_ble_eq_true rfl)
theorem zt_X10_has : zTb[132]? = some zqX10_has := rfl
theorem zs_X10_has {d : Nat} {f : zF} {m : zM} {x0 : Int64} {x2 : Int32} : zrun zTb (d + 1) 132 [.long x0, .int x2] f m = zex zTb d zqX10_has 0 [.long x0, .null, .int x2] [] f m := zrun_ex zt_X10_has rfl (Nat.le_of_ble_eq_true rfl)
theorem zt_X10_chain : zTb[133]? = some zqX10_chain := rfl
theorem zs_X10_chain {d : Nat} {f : zF} {m : zM} {x0 : Nat} {x1 : Int64} {x3 : Int64} {x5 : Int32} : zrun zTb (d + 1) 133 [.ref x0, .long x1, .long x3, .int x5] f m = zex zTb d zqX10_chain 0 [.ref x0, .long x1, .null, .long x3, .null, .int x5, .null, .null, .null, .null, .null] [] f m := zrun_ex zt_X10_chain rfl (Nat.le_of_ble_eq_true rfl)
theorem zt_X10_repeat : zTb[134]? = some zqX10_repeat := rfl
theorem zs_X10_repeat {d : Nat} {f : zF} {m : zM} {x0 : Nat} {x1 : Int64} : zrun zTb (d + 1) 134 [.ref x0, .long x1] f m = zex zTb d zqX10_repeat 0 [.ref x0, .long x1, .null, .null, .null, .null, .null] [] f m := zrun_ex zt_X10_repeat rfl (Nat.le_of_ble_eq_true rfl)
theorem zt_X10_table : zTb[135]? = some zqX10_table := rfl
theorem zs_X10_table {d : Nat} {f : zF} {m : zM} {x0 : Nat} {x1 : Int32} {x2 : Int32} {x3 : Int32} : zrun zTb (d + 1) 135 [.ref x0, .int x1, .int x2, .int x3] f m = zex zTb d zqX10_table 0 [.ref x0, .int x1, .int x2, .int x3] [] f m := zrun_ex zt_X10_table rfl (Nat.le_of_ble_eq_true rfl)
theorem zt_X10_isRight : zTb[136]? = some zqX10_isRight := rfl
theorem zs_X10_isRight {d : Nat} {f : zF} {m : zM} {x0 : Nat} {x1 : Int64} : zrun zTb (d + 1) 136 [.ref x0, .long x1] f m = zex zTb d zqX10_isRight 0 [.ref x0, .long x1, .null, .null, .null] [] f m := zrun_ex zt_X10_isRight rfl (Nat.le_of_ble_eq_true rfl)
theorem zt_X10_offer : zTb[137]? = some zqX10_offer := rfl
theorem zs_X10_offer {d : Nat} {f : zF} {m : zM} {x0 : Nat} {x1 : Int32} {x2 : Int32} {x3 : Int32} {x4 : Int32} : zrun zTb (d + 1) 137 [.ref x0, .int x1, .int x2, .int x3, .int x4] f m = zex zTb d zqX10_offer 0 [.ref x0, .int x1, .int x2, .int x3, .int x4, .null, .null, .null] [] f m := zrun_ex zt_X10_offer rfl (Nat.le_of_ble_eq_true rfl)
theorem zt_X10_offerAll : zTb[138]? = some zqX10_offerAll := rfl
theorem zs_X10_offerAll {d : Nat} {f : zF} {m : zM} {x0 : Nat} {x1 : Int32} {x2 : Int32} : zrun zTb (d + 1) 138 [.ref x0, .int x1, .int x2] f m = zex zTb d zqX10_offerAll 0 [.ref x0, .int x1, .int x2, .null, .null, .null, .null] [] f m := zrun_ex zt_X10_offerAll rfl (Nat.le_of_ble_eq_true rfl)
theorem zt_X10_look : zTb[139]? = some zqX10_look := rfl
theorem zs_X10_look {d : Nat} {f : zF} {m : zM} {x0 : Nat} {x1 : Int32} : zrun zTb (d + 1) 139 [.ref x0, .int x1] f m = zex zTb d zqX10_look 0 [.ref x0, .int x1, .null, .null] [] f m := zrun_ex zt_X10_look rfl (Nat.le_of_ble_eq_true rfl)
theorem zt_X10_write : zTb[140]? = some zqX10_write := rfl
theorem zs_X10_write {d : Nat} {f : zF} {m : zM} {x0 : Nat} {x1 : Int32} : zrun zTb (d + 1) 140 [.ref x0, .int x1] f m = zex zTb d zqX10_write 0 [.ref x0, .int x1] [] f m := zrun_ex zt_X10_write rfl (Nat.le_of_ble_eq_true rfl)
theorem zt_X10_kept : zTb[141]? = some zqX10_kept := rfl
theorem zs_X10_kept {d : Nat} {f : zF} {m : zM} {x0 : Nat} : zrun zTb (d + 1) 141 [.ref x0] f m = zex zTb d zqX10_kept 0 [.ref x0] [] f m := zrun_ex zt_X10_kept rfl (Nat.le_of_ble_eq_true rfl)
theorem zt_X10_isFound : zTb[142]? = some zqX10_isFound := rfl
theorem zs_X10_isFound {d : Nat} {f : zF} {m : zM} {x0 : Nat} : zrun zTb (d + 1) 142 [.ref x0] f m = zex zTb d zqX10_isFound 0 [.ref x0] [] f m := zrun_ex zt_X10_isFound rfl (Nat.le_of_ble_eq_true rfl)
theorem zt_X10_kindAt : zTb[143]? = some zqX10_kindAt := rfl
theorem zs_X10_kindAt {d : Nat} {f : zF} {m : zM} {x0 : Nat} {x1 : Int32} {x2 : Int32} : zrun zTb (d + 1) 143 [.ref x0, .int x1, .int x2] f m = zex zTb d zqX10_kindAt 0 [.ref x0, .int x1, .int x2] [] f m := zrun_ex zt_X10_kindAt rfl (Nat.le_of_ble_eq_true rfl)
theorem zt_X10_behind : zTb[144]? = some zqX10_behind := rfl
theorem zs_X10_behind {d : Nat} {f : zF} {m : zM} {x0 : Nat} {x1 : Int32} {x2 : Int32} : zrun zTb (d + 1) 144 [.ref x0, .int x1, .int x2] f m = zex zTb d zqX10_behind 0 [.ref x0, .int x1, .int x2, .null, .null] [] f m := zrun_ex zt_X10_behind rfl (Nat.le_of_ble_eq_true rfl)
theorem zt_X10_asks : zTb[145]? = some zqX10_asks := rfl
theorem zs_X10_asks {d : Nat} {f : zF} {m : zM} {x0 : Nat} {x1 : Int32} {x2 : Int32} : zrun zTb (d + 1) 145 [.ref x0, .int x1, .int x2] f m = zex zTb d zqX10_asks 0 [.ref x0, .int x1, .int x2] [] f m := zrun_ex zt_X10_asks rfl (Nat.le_of_ble_eq_true rfl)
theorem zt_X10_nodeCount : zTb[146]? = some zqX10_nodeCount := rfl
theorem zs_X10_nodeCount {d : Nat} {f : zF} {m : zM} {x0 : Nat} : zrun zTb (d + 1) 146 [.ref x0] f m = zex zTb d zqX10_nodeCount 0 [.ref x0] [] f m := zrun_ex zt_X10_nodeCount rfl (Nat.le_of_ble_eq_true rfl)
theorem zt_X10_kind : zTb[147]? = some zqX10_kind := rfl
theorem zs_X10_kind {d : Nat} {f : zF} {m : zM} {x0 : Nat} {x1 : Int32} : zrun zTb (d + 1) 147 [.ref x0, .int x1] f m = zex zTb d zqX10_kind 0 [.ref x0, .int x1] [] f m := zrun_ex zt_X10_kind rfl (Nat.le_of_ble_eq_true rfl)
theorem zt_X10_part_ : zTb[148]? = some zqX10_part_ := rfl
theorem zs_X10_part_ {d : Nat} {f : zF} {m : zM} {x0 : Nat} {x1 : Int32} {x2 : Int32} : zrun zTb (d + 1) 148 [.ref x0, .int x1, .int x2] f m = zex zTb d zqX10_part_ 0 [.ref x0, .int x1, .int x2, .null] [] f m := zrun_ex zt_X10_part_ rfl (Nat.le_of_ble_eq_true rfl)
theorem zt_X10_put : zTb[149]? = some zqX10_put := rfl
theorem zs_X10_put {d : Nat} {f : zF} {m : zM} {x0 : Nat} {x1 : Int32} : zrun zTb (d + 1) 149 [.ref x0, .int x1] f m = zex zTb d zqX10_put 0 [.ref x0, .int x1] [] f m := zrun_ex zt_X10_put rfl (Nat.le_of_ble_eq_true rfl)
theorem zt_X10_print : zTb[150]? = some zqX10_print := rfl
theorem zs_X10_print {d : Nat} {f : zF} {m : zM} {x0 : Nat} {x1 : Int32} {x2 : Int32} : zrun zTb (d + 1) 150 [.ref x0, .int x1, .int x2] f m = zex zTb d zqX10_print 0 [.ref x0, .int x1, .int x2, .null, .null] [] f m := zrun_ex zt_X10_print rfl (Nat.le_of_ble_eq_true rfl)
theorem zt_X10_printAll : zTb[151]? = some zqX10_printAll := rfl
theorem zs_X10_printAll {d : Nat} {f : zF} {m : zM} {x0 : Nat} : zrun zTb (d + 1) 151 [.ref x0] f m = zex zTb d zqX10_printAll 0 [.ref x0] [] f m := zrun_ex zt_X10_printAll rfl (Nat.le_of_ble_eq_true rfl)
theorem zt_X10_textSize : zTb[152]? = some zqX10_textSize := rfl
theorem zs_X10_textSize {d : Nat} {f : zF} {m : zM} {x0 : Nat} : zrun zTb (d + 1) 152 [.ref x0] f m = zex zTb d zqX10_textSize 0 [.ref x0] [] f m := zrun_ex zt_X10_textSize rfl (Nat.le_of_ble_eq_true rfl)
theorem zt_X10_text : zTb[153]? = some zqX10_text := rfl
theorem zs_X10_text {d : Nat} {f : zF} {m : zM} {x0 : Nat} {x1 : Int32} : zrun zTb (d + 1) 153 [.ref x0, .int x1] f m = zex zTb d zqX10_text 0 [.ref x0, .int x1] [] f m := zrun_ex zt_X10_text rfl (Nat.le_of_ble_eq_true rfl)
theorem zt_X10_bit : zTb[154]? = some zqX10_bit := rfl
theorem zs_X10_bit {d : Nat} {f : zF} {m : zM} {x0 : Int32} {x1 : Int32} : zrun zTb (d + 1) 154 [.int x0, .int x1] f m = zex zTb d zqX10_bit 0 [.int x0, .int x1] [] f m := zrun_ex zt_X10_bit rfl (Nat.le_of_ble_eq_true rfl)
theorem zt_X10_chainParts : zTb[155]? = some zqX10_chainParts := rfl
theorem zs_X10_chainParts {d : Nat} {f : zF} {m : zM} {x0 : Int64} {x2 : Int64} {x4 : Int32} {x5 : Int32} : zrun zTb (d + 1) 155 [.long x0, .long x2, .int x4, .int x5] f m = zex zTb d zqX10_chainParts 0 [.long x0, .null, .long x2, .null, .int x4, .int x5, .null, .null, .null, .null, .null] [] f m := zrun_ex zt_X10_chainParts rfl (Nat.le_of_ble_eq_true rfl)
theorem zt_X10_empties : zTb[156]? = some zqX10_empties := rfl
theorem zs_X10_empties {d : Nat} {f : zF} {m : zM} {x0 : Int32} : zrun zTb (d + 1) 156 [.int x0] f m = zex zTb d zqX10_empties 0 [.int x0, .null, .null, .null] [] f m := zrun_ex zt_X10_empties rfl (Nat.le_of_ble_eq_true rfl)
theorem zt_X10_match : zTb[157]? = some zqX10_match := rfl
theorem zs_X10_match {d : Nat} {f : zF} {m : zM} {x0 : Nat} {x1 : Int32} {x2 : Int32} : zrun zTb (d + 1) 157 [.ref x0, .int x1, .int x2] f m = zex zTb d zqX10_match 0 [.ref x0, .int x1, .int x2, .null, .null, .null, .null, .null, .null, .null, .null, .null, .null, .null, .null, .null, .null] [] f m := zrun_ex zt_X10_match rfl (Nat.le_of_ble_eq_true rfl)
theorem zt_X10_matches : zTb[158]? = some zqX10_matches := rfl
theorem zs_X10_matches {d : Nat} {f : zF} {m : zM} {x0 : Nat} {x1 : Int64} : zrun zTb (d + 1) 158 [.ref x0, .long x1] f m = zex zTb d zqX10_matches 0 [.ref x0, .long x1, .null, .null] [] f m := zrun_ex zt_X10_matches rfl (Nat.le_of_ble_eq_true rfl)
theorem zt_X10_isWord : zTb[159]? = some zqX10_isWord := rfl
theorem zs_X10_isWord {d : Nat} {f : zF} {m : zM} {x0 : Int32} : zrun zTb (d + 1) 159 [.int x0] f m = zex zTb d zqX10_isWord 0 [.int x0, .null, .null] [] f m := zrun_ex zt_X10_isWord rfl (Nat.le_of_ble_eq_true rfl)
theorem zt_X10_count : zTb[160]? = some zqX10_count := rfl
theorem zs_X10_count {d : Nat} {f : zF} {m : zM} {x0 : Nat} {x1 : Int32} : zrun zTb (d + 1) 160 [.ref x0, .int x1] f m = zex zTb d zqX10_count 0 [.ref x0, .int x1, .null, .null] [] f m := zrun_ex zt_X10_count rfl (Nat.le_of_ble_eq_true rfl)
theorem zt_X10_first : zTb[161]? = some zqX10_first := rfl
theorem zs_X10_first {d : Nat} {f : zF} {m : zM} {x0 : Nat} : zrun zTb (d + 1) 161 [.ref x0] f m = zex zTb d zqX10_first 0 [.ref x0, .null] [] f m := zrun_ex zt_X10_first rfl (Nat.le_of_ble_eq_true rfl)
theorem zt_X10_share : zTb[162]? = some zqX10_share := rfl
theorem zs_X10_share {d : Nat} {f : zF} {m : zM} {x0 : Nat} : zrun zTb (d + 1) 162 [.ref x0] f m = zex zTb d zqX10_share 0 [.ref x0, .null, .null] [] f m := zrun_ex zt_X10_share rfl (Nat.le_of_ble_eq_true rfl)
theorem zt_X10_push : zTb[163]? = some zqX10_push := rfl
theorem zs_X10_push {d : Nat} {f : zF} {m : zM} {x0 : Nat} {x1 : Int32} {x2 : Int32} : zrun zTb (d + 1) 163 [.ref x0, .int x1, .int x2] f m = zex zTb d zqX10_push 0 [.ref x0, .int x1, .int x2] [] f m := zrun_ex zt_X10_push rfl (Nat.le_of_ble_eq_true rfl)
theorem zt_X10_putAhead : zTb[164]? = some zqX10_putAhead := rfl
theorem zs_X10_putAhead {d : Nat} {f : zF} {m : zM} {x0 : Nat} {x1 : Int32} {x2 : Int32} : zrun zTb (d + 1) 164 [.ref x0, .int x1, .int x2] f m = zex zTb d zqX10_putAhead 0 [.ref x0, .int x1, .int x2, .null] [] f m := zrun_ex zt_X10_putAhead rfl (Nat.le_of_ble_eq_true rfl)
theorem zt_X10_wrap : zTb[165]? = some zqX10_wrap := rfl
theorem zs_X10_wrap {d : Nat} {f : zF} {m : zM} {x0 : Nat} {x1 : Int32} : zrun zTb (d + 1) 165 [.ref x0, .int x1] f m = zex zTb d zqX10_wrap 0 [.ref x0, .int x1] [] f m := zrun_ex zt_X10_wrap rfl (Nat.le_of_ble_eq_true rfl)
theorem zt_X10_join : zTb[166]? = some zqX10_join := rfl
theorem zs_X10_join {d : Nat} {f : zF} {m : zM} {x0 : Nat} {x1 : Int32} : zrun zTb (d + 1) 166 [.ref x0, .int x1] f m = zex zTb d zqX10_join 0 [.ref x0, .int x1, .null, .null] [] f m := zrun_ex zt_X10_join rfl (Nat.le_of_ble_eq_true rfl)
theorem zt_X10_take : zTb[167]? = some zqX10_take := rfl
theorem zs_X10_take {d : Nat} {f : zF} {m : zM} {x0 : Nat} : zrun zTb (d + 1) 167 [.ref x0] f m = zex zTb d zqX10_take 0 [.ref x0, .null] [] f m := zrun_ex zt_X10_take rfl (Nat.le_of_ble_eq_true rfl)
theorem zt_X10_pop : zTb[168]? = some zqX10_pop := rfl
theorem zs_X10_pop {d : Nat} {f : zF} {m : zM} {x0 : Nat} : zrun zTb (d + 1) 168 [.ref x0] f m = zex zTb d zqX10_pop 0 [.ref x0] [] f m := zrun_ex zt_X10_pop rfl (Nat.le_of_ble_eq_true rfl)
theorem zt_X10_costOf : zTb[169]? = some zqX10_costOf := rfl
theorem zs_X10_costOf {d : Nat} {f : zF} {m : zM} {x0 : Nat} {x1 : Int32} : zrun zTb (d + 1) 169 [.ref x0, .int x1] f m = zex zTb d zqX10_costOf 0 [.ref x0, .int x1, .null, .null] [] f m := zrun_ex zt_X10_costOf rfl (Nat.le_of_ble_eq_true rfl)
theorem zt_X10_topCost : zTb[170]? = some zqX10_topCost := rfl
theorem zs_X10_topCost {d : Nat} {f : zF} {m : zM} {x0 : Nat} : zrun zTb (d + 1) 170 [.ref x0] f m = zex zTb d zqX10_topCost 0 [.ref x0] [] f m := zrun_ex zt_X10_topCost rfl (Nat.le_of_ble_eq_true rfl)
theorem zt_X10_topMatches : zTb[171]? = some zqX10_topMatches := rfl
theorem zs_X10_topMatches {d : Nat} {f : zF} {m : zM} {x0 : Nat} {x1 : Int64} : zrun zTb (d + 1) 171 [.ref x0, .long x1] f m = zex zTb d zqX10_topMatches 0 [.ref x0, .long x1, .null, .null] [] f m := zrun_ex zt_X10_topMatches rfl (Nat.le_of_ble_eq_true rfl)
theorem zt_X10_topWrong : zTb[172]? = some zqX10_topWrong := rfl
theorem zs_X10_topWrong {d : Nat} {f : zF} {m : zM} {x0 : Nat} : zrun zTb (d + 1) 172 [.ref x0] f m = zex zTb d zqX10_topWrong 0 [.ref x0, .null, .null] [] f m := zrun_ex zt_X10_topWrong rfl (Nat.le_of_ble_eq_true rfl)
theorem zt_X10_digest : zTb[173]? = some zqX10_digest := rfl
theorem zs_X10_digest {d : Nat} {f : zF} {m : zM} {x0 : Nat} : zrun zTb (d + 1) 173 [.ref x0] f m = zex zTb d zqX10_digest 0 [.ref x0, .null, .null, .null] [] f m := zrun_ex zt_X10_digest rfl (Nat.le_of_ble_eq_true rfl)
theorem zt_J13_bitCount_95d88 : zTb[174]? = some zqJ13_bitCount_95d88 := rfl
theorem zs_J13_bitCount_95d88 {d : Nat} {f : zF} {m : zM} {x0 : Int64} : zrun zTb (d + 1) 174 [.long x0] f m = zex zTb d zqJ13_bitCount_95d88 0 [.long x0, .null] [] f m := zrun_ex zt_J13_bitCount_95d88 rfl (Nat.le_of_ble_eq_true rfl)
theorem zt_L_add : zTb[175]? = some zqL_add := rfl
theorem zs_L_add {d : Nat} {f : zF} {m : zM} {x0 : Nat} {x1 : Int64} {x3 : Int32} {x4 : Nat} : zrun zTb (d + 1) 175 [.ref x0, .long x1, .int x3, .ref x4] f m = zex zTb d zqL_add 0 [.ref x0, .long x1, .null, .int x3, .ref x4, .null] [] f m := zrun_ex zt_L_add rfl (Nat.le_of_ble_eq_true rfl)
theorem zt_L_mark : zTb[176]? = some zqL_mark := rfl
theorem zs_L_mark {d : Nat} {f : zF} {m : zM} {x0 : Nat} {x1 : Int32} {x2 : Int32} {x3 : Nat} : zrun zTb (d + 1) 176 [.ref x0, .int x1, .int x2, .ref x3] f m = zex zTb d zqL_mark 0 [.ref x0, .int x1, .int x2, .ref x3, .null] [] f m := zrun_ex zt_L_mark rfl (Nat.le_of_ble_eq_true rfl)
theorem zt_L_drop : zTb[177]? = some zqL_drop := rfl
theorem zs_L_drop {d : Nat} {f : zF} {m : zM} {x0 : Nat} {x1 : Nat} : zrun zTb (d + 1) 177 [.ref x0, .ref x1] f m = zex zTb d zqL_drop 0 [.ref x0, .ref x1, .null] [] f m := zrun_ex zt_L_drop rfl (Nat.le_of_ble_eq_true rfl)
theorem zt_L_setCost : zTb[178]? = some zqL_setCost := rfl
theorem zs_L_setCost {d : Nat} {f : zF} {m : zM} {x0 : Nat} {x1 : Int32} {x2 : Int32} {x3 : Nat} : zrun zTb (d + 1) 178 [.ref x0, .int x1, .int x2, .ref x3] f m = zex zTb d zqL_setCost 0 [.ref x0, .int x1, .int x2, .ref x3, .null] [] f m := zrun_ex zt_L_setCost rfl (Nat.le_of_ble_eq_true rfl)
theorem zt_L_example : zTb[179]? = some zqL_example := rfl
theorem zs_L_example {d : Nat} {f : zF} {m : zM} {x0 : Nat} {x1 : Int32} {x2 : Nat} : zrun zTb (d + 1) 179 [.ref x0, .int x1, .ref x2] f m = zex zTb d zqL_example 0 [.ref x0, .int x1, .ref x2, .null] [] f m := zrun_ex zt_L_example rfl (Nat.le_of_ble_eq_true rfl)
theorem zt_L_isGood : zTb[180]? = some zqL_isGood := rfl
theorem zs_L_isGood {d : Nat} {f : zF} {m : zM} {x0 : Nat} {x1 : Int32} {x2 : Nat} : zrun zTb (d + 1) 180 [.ref x0, .int x1, .ref x2] f m = zex zTb d zqL_isGood 0 [.ref x0, .int x1, .ref x2, .null] [] f m := zrun_ex zt_L_isGood rfl (Nat.le_of_ble_eq_true rfl)
theorem zt_L_piece : zTb[181]? = some zqL_piece := rfl
theorem zs_L_piece {d : Nat} {f : zF} {m : zM} {x0 : Nat} {x1 : Int32} {x2 : Nat} : zrun zTb (d + 1) 181 [.ref x0, .int x1, .ref x2] f m = zex zTb d zqL_piece 0 [.ref x0, .int x1, .ref x2, .null] [] f m := zrun_ex zt_L_piece rfl (Nat.le_of_ble_eq_true rfl)
theorem zt_L_look : zTb[182]? = some zqL_look := rfl
theorem zs_L_look {d : Nat} {f : zF} {m : zM} {x0 : Nat} {x1 : Int32} {x2 : Nat} : zrun zTb (d + 1) 182 [.ref x0, .int x1, .ref x2] f m = zex zTb d zqL_look 0 [.ref x0, .int x1, .ref x2, .null] [] f m := zrun_ex zt_L_look rfl (Nat.le_of_ble_eq_true rfl)
theorem zt_L_nodeCount : zTb[183]? = some zqL_nodeCount := rfl
theorem zs_L_nodeCount {d : Nat} {f : zF} {m : zM} {x0 : Nat} {x1 : Nat} : zrun zTb (d + 1) 183 [.ref x0, .ref x1] f m = zex zTb d zqL_nodeCount 0 [.ref x0, .ref x1, .null] [] f m := zrun_ex zt_L_nodeCount rfl (Nat.le_of_ble_eq_true rfl)
theorem zt_L_kind : zTb[184]? = some zqL_kind := rfl
theorem zs_L_kind {d : Nat} {f : zF} {m : zM} {x0 : Nat} {x1 : Int32} {x2 : Nat} : zrun zTb (d + 1) 184 [.ref x0, .int x1, .ref x2] f m = zex zTb d zqL_kind 0 [.ref x0, .int x1, .ref x2, .null] [] f m := zrun_ex zt_L_kind rfl (Nat.le_of_ble_eq_true rfl)
theorem zt_L_part : zTb[185]? = some zqL_part := rfl
theorem zs_L_part {d : Nat} {f : zF} {m : zM} {x0 : Nat} {x1 : Int32} {x2 : Int32} {x3 : Nat} : zrun zTb (d + 1) 185 [.ref x0, .int x1, .int x2, .ref x3] f m = zex zTb d zqL_part 0 [.ref x0, .int x1, .int x2, .ref x3, .null] [] f m := zrun_ex zt_L_part rfl (Nat.le_of_ble_eq_true rfl)
theorem zt_L_textSize : zTb[186]? = some zqL_textSize := rfl
theorem zs_L_textSize {d : Nat} {f : zF} {m : zM} {x0 : Nat} {x1 : Nat} : zrun zTb (d + 1) 186 [.ref x0, .ref x1] f m = zex zTb d zqL_textSize 0 [.ref x0, .ref x1, .null] [] f m := zrun_ex zt_L_textSize rfl (Nat.le_of_ble_eq_true rfl)
theorem zt_L_text : zTb[187]? = some zqL_text := rfl
theorem zs_L_text {d : Nat} {f : zF} {m : zM} {x0 : Nat} {x1 : Int32} {x2 : Nat} : zrun zTb (d + 1) 187 [.ref x0, .int x1, .ref x2] f m = zex zTb d zqL_text 0 [.ref x0, .int x1, .ref x2, .null] [] f m := zrun_ex zt_L_text rfl (Nat.le_of_ble_eq_true rfl)
theorem zt_L_matches : zTb[188]? = some zqL_matches := rfl
theorem zs_L_matches {d : Nat} {f : zF} {m : zM} {x0 : Nat} {x1 : Int64} {x3 : Nat} : zrun zTb (d + 1) 188 [.ref x0, .long x1, .ref x3] f m = zex zTb d zqL_matches 0 [.ref x0, .long x1, .null, .ref x3, .null] [] f m := zrun_ex zt_L_matches rfl (Nat.le_of_ble_eq_true rfl)
theorem zt_L_count : zTb[189]? = some zqL_count := rfl
theorem zs_L_count {d : Nat} {f : zF} {m : zM} {x0 : Nat} {x1 : Int32} {x2 : Nat} : zrun zTb (d + 1) 189 [.ref x0, .int x1, .ref x2] f m = zex zTb d zqL_count 0 [.ref x0, .int x1, .ref x2, .null] [] f m := zrun_ex zt_L_count rfl (Nat.le_of_ble_eq_true rfl)
theorem zt_L_first : zTb[190]? = some zqL_first := rfl
theorem zs_L_first {d : Nat} {f : zF} {m : zM} {x0 : Nat} {x1 : Nat} : zrun zTb (d + 1) 190 [.ref x0, .ref x1] f m = zex zTb d zqL_first 0 [.ref x0, .ref x1, .null] [] f m := zrun_ex zt_L_first rfl (Nat.le_of_ble_eq_true rfl)
theorem zt_L_share : zTb[191]? = some zqL_share := rfl
theorem zs_L_share {d : Nat} {f : zF} {m : zM} {x0 : Nat} {x1 : Nat} : zrun zTb (d + 1) 191 [.ref x0, .ref x1] f m = zex zTb d zqL_share 0 [.ref x0, .ref x1, .null] [] f m := zrun_ex zt_L_share rfl (Nat.le_of_ble_eq_true rfl)
theorem zt_L_push : zTb[192]? = some zqL_push := rfl
theorem zs_L_push {d : Nat} {f : zF} {m : zM} {x0 : Nat} {x1 : Int32} {x2 : Int32} {x3 : Nat} : zrun zTb (d + 1) 192 [.ref x0, .int x1, .int x2, .ref x3] f m = zex zTb d zqL_push 0 [.ref x0, .int x1, .int x2, .ref x3, .null] [] f m := zrun_ex zt_L_push rfl (Nat.le_of_ble_eq_true rfl)
theorem zt_L_wrap : zTb[193]? = some zqL_wrap := rfl
theorem zs_L_wrap {d : Nat} {f : zF} {m : zM} {x0 : Nat} {x1 : Int32} {x2 : Nat} : zrun zTb (d + 1) 193 [.ref x0, .int x1, .ref x2] f m = zex zTb d zqL_wrap 0 [.ref x0, .int x1, .ref x2, .null] [] f m := zrun_ex zt_L_wrap rfl (Nat.le_of_ble_eq_true rfl)
theorem zt_L_join : zTb[194]? = some zqL_join := rfl
theorem zs_L_join {d : Nat} {f : zF} {m : zM} {x0 : Nat} {x1 : Int32} {x2 : Nat} : zrun zTb (d + 1) 194 [.ref x0, .int x1, .ref x2] f m = zex zTb d zqL_join 0 [.ref x0, .int x1, .ref x2, .null] [] f m := zrun_ex zt_L_join rfl (Nat.le_of_ble_eq_true rfl)
theorem zt_L_take : zTb[195]? = some zqL_take := rfl
theorem zs_L_take {d : Nat} {f : zF} {m : zM} {x0 : Nat} {x1 : Nat} : zrun zTb (d + 1) 195 [.ref x0, .ref x1] f m = zex zTb d zqL_take 0 [.ref x0, .ref x1, .null] [] f m := zrun_ex zt_L_take rfl (Nat.le_of_ble_eq_true rfl)
theorem zt_L_pop : zTb[196]? = some zqL_pop := rfl
theorem zs_L_pop {d : Nat} {f : zF} {m : zM} {x0 : Nat} {x1 : Nat} : zrun zTb (d + 1) 196 [.ref x0, .ref x1] f m = zex zTb d zqL_pop 0 [.ref x0, .ref x1, .null] [] f m := zrun_ex zt_L_pop rfl (Nat.le_of_ble_eq_true rfl)
theorem zt_L_topCost : zTb[197]? = some zqL_topCost := rfl
theorem zs_L_topCost {d : Nat} {f : zF} {m : zM} {x0 : Nat} {x1 : Nat} : zrun zTb (d + 1) 197 [.ref x0, .ref x1] f m = zex zTb d zqL_topCost 0 [.ref x0, .ref x1, .null] [] f m := zrun_ex zt_L_topCost rfl (Nat.le_of_ble_eq_true rfl)
theorem zt_L_topMatches : zTb[198]? = some zqL_topMatches := rfl
theorem zs_L_topMatches {d : Nat} {f : zF} {m : zM} {x0 : Nat} {x1 : Int64} {x3 : Nat} : zrun zTb (d + 1) 198 [.ref x0, .long x1, .ref x3] f m = zex zTb d zqL_topMatches 0 [.ref x0, .long x1, .null, .ref x3, .null] [] f m := zrun_ex zt_L_topMatches rfl (Nat.le_of_ble_eq_true rfl)
theorem zt_L_topWrong : zTb[199]? = some zqL_topWrong := rfl
theorem zs_L_topWrong {d : Nat} {f : zF} {m : zM} {x0 : Nat} {x1 : Nat} : zrun zTb (d + 1) 199 [.ref x0, .ref x1] f m = zex zTb d zqL_topWrong 0 [.ref x0, .ref x1, .null] [] f m := zrun_ex zt_L_topWrong rfl (Nat.le_of_ble_eq_true rfl)
theorem zt_L_law : zTb[200]? = some zqL_law := rfl
theorem zs_L_law {d : Nat} {f : zF} {m : zM} {x0 : Nat} : zrun zTb (d + 1) 200 [.ref x0] f m = zex zTb d zqL_law 0 [.ref x0, .null, .null, .null, .null, .null, .null, .null, .null] [] f m := zrun_ex zt_L_law rfl (Nat.le_of_ble_eq_true rfl)
