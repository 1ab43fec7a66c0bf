set_option maxRecDepth 100000 in
theorem zgX0_init : zGood zwX0_init := zgood_r _ zpX0_init (by decide +kernel) (by decide +kernel)
set_option maxRecDepth 100000 in
theorem zkX0_init : zchk zTb zwX0_init zqX0_init = true := by decide +kernel
set_option maxRecDepth 100000 in
theorem zgX0_read : zGood zwX0_read := zgood_r _ zpX0_read (by decide +kernel) (by decide +kernel)
set_option maxRecDepth 100000 in
theorem zkX0_read : zchk zTb zwX0_read zqX0_read = true := by decide +kernel
set_option maxRecDepth 100000 in
theorem zgX0_append : zGood zwX0_append := zgood_r _ zpX0_append (by decide +kernel) (by decide +kernel)
set_option maxRecDepth 100000 in
theorem zkX0_append : zchk zTb zwX0_append zqX0_append = true := by decide +kernel
set_option maxRecDepth 100000 in
theorem zgX0_fillRow : zGood zwX0_fillRow := zgood_r _ zpX0_fillRow (by decide +kernel) (by decide +kernel)
set_option maxRecDepth 100000 in
theorem zkX0_fillRow : zchk zTb zwX0_fillRow zqX0_fillRow = true := by decide +kernel
set_option maxRecDepth 100000 in
theorem zgX1_init : zGood zwX1_init := zgood_r _ zpX1_init (by decide +kernel) (by decide +kernel)
set_option maxRecDepth 100000 in
theorem zkX1_init : zchk zTb zwX1_init zqX1_init = true := by decide +kernel
set_option maxRecDepth 100000 in
theorem zgX1_has : zGood zwX1_has := zgood_r _ zpX1_has (by decide +kernel) (by decide +kernel)
set_option maxRecDepth 100000 in
theorem zkX1_has : zchk zTb zwX1_has zqX1_has = true := by decide +kernel
set_option maxRecDepth 100000 in
theorem zgX1_append : zGood zwX1_append := zgood_r _ zpX1_append (by decide +kernel) (by decide +kernel)
set_option maxRecDepth 100000 in
theorem zkX1_append : zchk zTb zwX1_append zqX1_append = true := by decide +kernel
set_option maxRecDepth 100000 in
theorem zgX1_holds : zGood zwX1_holds := zgood_r _ zpX1_holds (by decide +kernel) (by decide +kernel)
set_option maxRecDepth 100000 in
theorem zkX1_holds : zchk zTb zwX1_holds zqX1_holds = true := by decide +kernel
set_option maxRecDepth 100000 in
theorem zgX1_removeLast : zGood zwX1_removeLast := zgood_r _ zpX1_removeLast (by decide +kernel) (by decide +kernel)
set_option maxRecDepth 100000 in
theorem zkX1_removeLast : zchk zTb zwX1_removeLast zqX1_removeLast = true := by decide +kernel
set_option maxRecDepth 100000 in
theorem zgX1_tableOf : zGood zwX1_tableOf := zgood_r _ zpX1_tableOf (by decide +kernel) (by decide +kernel)
set_option maxRecDepth 100000 in
theorem zkX1_tableOf : zchk zTb zwX1_tableOf zqX1_tableOf = true := by decide +kernel
set_option maxRecDepth 100000 in
theorem zgX2_init : zGood zwX2_init := zgood_r _ zpX2_init (by decide +kernel) (by decide +kernel)
set_option maxRecDepth 100000 in
theorem zkX2_init : zchk zTb zwX2_init zqX2_init = true := by decide +kernel
set_option maxRecDepth 100000 in
theorem zgX2_has : zGood zwX2_has := zgood_r _ zpX2_has (by decide +kernel) (by decide +kernel)
set_option maxRecDepth 100000 in
theorem zkX2_has : zchk zTb zwX2_has zqX2_has = true := by decide +kernel
set_option maxRecDepth 100000 in
theorem zgX2_kindOf : zGood zwX2_kindOf := zgood_r _ zpX2_kindOf (by decide +kernel) (by decide +kernel)
set_option maxRecDepth 100000 in
theorem zkX2_kindOf : zchk zTb zwX2_kindOf zqX2_kindOf = true := by decide +kernel
set_option maxRecDepth 100000 in
theorem zgX2_letterOf : zGood zwX2_letterOf := zgood_r _ zpX2_letterOf (by decide +kernel) (by decide +kernel)
set_option maxRecDepth 100000 in
theorem zkX2_letterOf : zchk zTb zwX2_letterOf zqX2_letterOf = true := by decide +kernel
set_option maxRecDepth 100000 in
theorem zgX2_secondOf : zGood zwX2_secondOf := zgood_r _ zpX2_secondOf (by decide +kernel) (by decide +kernel)
set_option maxRecDepth 100000 in
theorem zkX2_secondOf : zchk zTb zwX2_secondOf zqX2_secondOf = true := by decide +kernel
set_option maxRecDepth 100000 in
theorem zgX2_totalCost : zGood zwX2_totalCost := zgood_r _ zpX2_totalCost (by decide +kernel) (by decide +kernel)
set_option maxRecDepth 100000 in
theorem zkX2_totalCost : zchk zTb zwX2_totalCost zqX2_totalCost = true := by decide +kernel
set_option maxRecDepth 100000 in
theorem zgX2_becomeNoNodes : zGood zwX2_becomeNoNodes := zgood_r _ zpX2_becomeNoNodes (by decide +kernel) (by decide +kernel)
set_option maxRecDepth 100000 in
theorem zkX2_becomeNoNodes : zchk zTb zwX2_becomeNoNodes zqX2_becomeNoNodes = true := by decide +kernel
set_option maxRecDepth 100000 in
theorem zgX2_append : zGood zwX2_append := zgood_r _ zpX2_append (by decide +kernel) (by decide +kernel)
set_option maxRecDepth 100000 in
theorem zkX2_append : zchk zTb zwX2_append zqX2_append = true := by decide +kernel
set_option maxRecDepth 100000 in
theorem zgX2_becomeLeaf : zGood zwX2_becomeLeaf := zgood_r _ zpX2_becomeLeaf (by decide +kernel) (by decide +kernel)
set_option maxRecDepth 100000 in
theorem zkX2_becomeLeaf : zchk zTb zwX2_becomeLeaf zqX2_becomeLeaf = true := by decide +kernel
set_option maxRecDepth 100000 in
theorem zgX2_becomeCopy : zGood zwX2_becomeCopy := zgood_r _ zpX2_becomeCopy (by decide +kernel) (by decide +kernel)
set_option maxRecDepth 100000 in
theorem zkX2_becomeCopy : zchk zTb zwX2_becomeCopy zqX2_becomeCopy = true := by decide +kernel
set_option maxRecDepth 100000 in
theorem zgX2_becomeWrapped : zGood zwX2_becomeWrapped := zgood_r _ zpX2_becomeWrapped (by decide +kernel) (by decide +kernel)
set_option maxRecDepth 100000 in
theorem zkX2_becomeWrapped : zchk zTb zwX2_becomeWrapped zqX2_becomeWrapped = true := by decide +kernel
set_option maxRecDepth 100000 in
theorem zgX2_becomeJoined : zGood zwX2_becomeJoined := zgood_r _ zpX2_becomeJoined (by decide +kernel) (by decide +kernel)
set_option maxRecDepth 100000 in
theorem zkX2_becomeJoined : zchk zTb zwX2_becomeJoined zqX2_becomeJoined = true := by decide +kernel
set_option maxRecDepth 100000 in
theorem zgX2_appendAll : zGood zwX2_appendAll := zgood_r _ zpX2_appendAll (by decide +kernel) (by decide +kernel)
set_option maxRecDepth 100000 in
theorem zkX2_appendAll : zchk zTb zwX2_appendAll zqX2_appendAll = true := by decide +kernel
set_option maxRecDepth 100000 in
theorem zgX2_makeRoomAhead : zGood zwX2_makeRoomAhead := zgood_r _ zpX2_makeRoomAhead (by decide +kernel) (by decide +kernel)
set_option maxRecDepth 100000 in
theorem zkX2_makeRoomAhead : zchk zTb zwX2_makeRoomAhead zqX2_makeRoomAhead = true := by decide +kernel
set_option maxRecDepth 100000 in
theorem zgX3_init : zGood zwX3_init := zgood_r _ zpX3_init (by decide +kernel) (by decide +kernel)
set_option maxRecDepth 100000 in
theorem zkX3_init : zchk zTb zwX3_init zqX3_init = true := by decide +kernel
set_option maxRecDepth 100000 in
theorem zgX3_has : zGood zwX3_has := zgood_r _ zpX3_has (by decide +kernel) (by decide +kernel)
set_option maxRecDepth 100000 in
theorem zkX3_has : zchk zTb zwX3_has zqX3_has = true := by decide +kernel
set_option maxRecDepth 100000 in
theorem zgX3_becomeEmptyWord : zGood zwX3_becomeEmptyWord := zgood_r _ zpX3_becomeEmptyWord (by decide +kernel) (by decide +kernel)
set_option maxRecDepth 100000 in
theorem zkX3_becomeEmptyWord : zchk zTb zwX3_becomeEmptyWord zqX3_becomeEmptyWord = true := by decide +kernel
set_option maxRecDepth 100000 in
theorem zgX3_becomeCopy : zGood zwX3_becomeCopy := zgood_r _ zpX3_becomeCopy (by decide +kernel) (by decide +kernel)
set_option maxRecDepth 100000 in
theorem zkX3_becomeCopy : zchk zTb zwX3_becomeCopy zqX3_becomeCopy = true := by decide +kernel
set_option maxRecDepth 100000 in
theorem zgX3_takeIn : zGood zwX3_takeIn := zgood_r _ zpX3_takeIn (by decide +kernel) (by decide +kernel)
set_option maxRecDepth 100000 in
theorem zkX3_takeIn : zchk zTb zwX3_takeIn zqX3_takeIn = true := by decide +kernel
set_option maxRecDepth 100000 in
theorem zgX3_insert : zGood zwX3_insert := zgood_r _ zpX3_insert (by decide +kernel) (by decide +kernel)
set_option maxRecDepth 100000 in
theorem zkX3_insert : zchk zTb zwX3_insert zqX3_insert = true := by decide +kernel
set_option maxRecDepth 100000 in
theorem zgX3_earlierThan : zGood zwX3_earlierThan := zgood_r _ zpX3_earlierThan (by decide +kernel) (by decide +kernel)
set_option maxRecDepth 100000 in
theorem zkX3_earlierThan : zchk zTb zwX3_earlierThan zqX3_earlierThan = true := by decide +kernel
set_option maxRecDepth 100000 in
theorem zgX3_placeOf : zGood zwX3_placeOf := zgood_r _ zpX3_placeOf (by decide +kernel) (by decide +kernel)
set_option maxRecDepth 100000 in
theorem zkX3_placeOf : zchk zTb zwX3_placeOf zqX3_placeOf = true := by decide +kernel
set_option maxRecDepth 100000 in
theorem zgX3_tableOf : zGood zwX3_tableOf := zgood_r _ zpX3_tableOf (by decide +kernel) (by decide +kernel)
set_option maxRecDepth 100000 in
theorem zkX3_tableOf : zchk zTb zwX3_tableOf zqX3_tableOf = true := by decide +kernel
set_option maxRecDepth 100000 in
theorem zgX4_init : zGood zwX4_init := zgood_r _ zpX4_init (by decide +kernel) (by decide +kernel)
set_option maxRecDepth 100000 in
theorem zkX4_init : zchk zTb zwX4_init zqX4_init = true := by decide +kernel
set_option maxRecDepth 100000 in
theorem zgX4_has : zGood zwX4_has := zgood_r _ zpX4_has (by decide +kernel) (by decide +kernel)
set_option maxRecDepth 100000 in
theorem zkX4_has : zchk zTb zwX4_has zqX4_has = true := by decide +kernel
set_option maxRecDepth 100000 in
theorem zgX4_write : zGood zwX4_write := zgood_r _ zpX4_write (by decide +kernel) (by decide +kernel)
set_option maxRecDepth 100000 in
theorem zkX4_write : zchk zTb zwX4_write zqX4_write = true := by decide +kernel
set_option maxRecDepth 100000 in
theorem zgX4_putNode : zGood zwX4_putNode := zgood_r _ zpX4_putNode (by decide +kernel) (by decide +kernel)
set_option maxRecDepth 100000 in
theorem zkX4_putNode : zchk zTb zwX4_putNode zqX4_putNode = true := by decide +kernel
set_option maxRecDepth 100000 in
theorem zgX4_leaveFirst : zGood zwX4_leaveFirst := zgood_r _ zpX4_leaveFirst (by decide +kernel) (by decide +kernel)
set_option maxRecDepth 100000 in
theorem zkX4_leaveFirst : zchk zTb zwX4_leaveFirst zqX4_leaveFirst = true := by decide +kernel
set_option maxRecDepth 100000 in
theorem zgX4_leaveSecond : zGood zwX4_leaveSecond := zgood_r _ zpX4_leaveSecond (by decide +kernel) (by decide +kernel)
set_option maxRecDepth 100000 in
theorem zkX4_leaveSecond : zchk zTb zwX4_leaveSecond zqX4_leaveSecond = true := by decide +kernel
set_option maxRecDepth 100000 in
theorem zgX4_leavePart : zGood zwX4_leavePart := zgood_r _ zpX4_leavePart (by decide +kernel) (by decide +kernel)
set_option maxRecDepth 100000 in
theorem zkX4_leavePart : zchk zTb zwX4_leavePart zqX4_leavePart = true := by decide +kernel
set_option maxRecDepth 100000 in
theorem zgX4_leave : zGood zwX4_leave := zgood_r _ zpX4_leave (by decide +kernel) (by decide +kernel)
set_option maxRecDepth 100000 in
theorem zkX4_leave : zchk zTb zwX4_leave zqX4_leave = true := by decide +kernel
set_option maxRecDepth 100000 in
theorem zgX4_put : zGood zwX4_put := zgood_r _ zpX4_put (by decide +kernel) (by decide +kernel)
set_option maxRecDepth 100000 in
theorem zkX4_put : zchk zTb zwX4_put zqX4_put = true := by decide +kernel
set_option maxRecDepth 100000 in
theorem zgX5_init : zGood zwX5_init := zgood_r _ zpX5_init (by decide +kernel) (by decide +kernel)
set_option maxRecDepth 100000 in
theorem zkX5_init : zchk zTb zwX5_init zqX5_init = true := by decide +kernel
set_option maxRecDepth 100000 in
theorem zgX5_run : zGood zwX5_run := zgood_r _ zpX5_run (by decide +kernel) (by decide +kernel)
set_option maxRecDepth 100000 in
theorem zkX5_run : zchk zTb zwX5_run zqX5_run = true := by decide +kernel
set_option maxRecDepth 100000 in
theorem zgX5_goThrough : zGood zwX5_goThrough := zgood_r _ zpX5_goThrough (by decide +kernel) (by decide +kernel)
set_option maxRecDepth 100000 in
theorem zkX5_goThrough : zchk zTb zwX5_goThrough zqX5_goThrough = true := by decide +kernel
set_option maxRecDepth 100000 in
theorem zgX5_offerLeaves : zGood zwX5_offerLeaves := zgood_r _ zpX5_offerLeaves (by decide +kernel) (by decide +kernel)
set_option maxRecDepth 100000 in
theorem zkX5_offerLeaves : zchk zTb zwX5_offerLeaves zqX5_offerLeaves = true := by decide +kernel
set_option maxRecDepth 100000 in
theorem zgX5_offerWraps : zGood zwX5_offerWraps := zgood_r _ zpX5_offerWraps (by decide +kernel) (by decide +kernel)
set_option maxRecDepth 100000 in
theorem zkX5_offerWraps : zchk zTb zwX5_offerWraps zqX5_offerWraps = true := by decide +kernel
set_option maxRecDepth 100000 in
theorem zgX5_offerJoins : zGood zwX5_offerJoins := zgood_r _ zpX5_offerJoins (by decide +kernel) (by decide +kernel)
set_option maxRecDepth 100000 in
theorem zkX5_offerJoins : zchk zTb zwX5_offerJoins zqX5_offerJoins = true := by decide +kernel
set_option maxRecDepth 100000 in
theorem zgX5_from : zGood zwX5_from := zgood_r _ zpX5_from (by decide +kernel) (by decide +kernel)
set_option maxRecDepth 100000 in
theorem zkX5_from : zchk zTb zwX5_from zqX5_from = true := by decide +kernel
set_option maxRecDepth 100000 in
theorem zgX5_offer : zGood zwX5_offer := zgood_r _ zpX5_offer (by decide +kernel) (by decide +kernel)
set_option maxRecDepth 100000 in
theorem zkX5_offer : zchk zTb zwX5_offer zqX5_offer = true := by decide +kernel
set_option maxRecDepth 100000 in
theorem zgX6_init : zGood zwX6_init := zgood_r _ zpX6_init (by decide +kernel) (by decide +kernel)
set_option maxRecDepth 100000 in
theorem zkX6_init : zchk zTb zwX6_init zqX6_init = true := by decide +kernel
set_option maxRecDepth 100000 in
theorem zgX6_has : zGood zwX6_has := zgood_r _ zpX6_has (by decide +kernel) (by decide +kernel)
set_option maxRecDepth 100000 in
theorem zkX6_has : zchk zTb zwX6_has zqX6_has = true := by decide +kernel
set_option maxRecDepth 100000 in
theorem zgX6_isFull : zGood zwX6_isFull := zgood_r _ zpX6_isFull (by decide +kernel) (by decide +kernel)
set_option maxRecDepth 100000 in
theorem zkX6_isFull : zchk zTb zwX6_isFull zqX6_isFull = true := by decide +kernel
set_option maxRecDepth 100000 in
theorem zgX6_becomeEmpty : zGood zwX6_becomeEmpty := zgood_r _ zpX6_becomeEmpty (by decide +kernel) (by decide +kernel)
set_option maxRecDepth 100000 in
theorem zkX6_becomeEmpty : zchk zTb zwX6_becomeEmpty zqX6_becomeEmpty = true := by decide +kernel
