set_option maxRecDepth 100000 in
theorem zgX10_init : zGood zwX10_init := zgood_r _ zpX10_init (by decide +kernel) (by decide +kernel)
set_option maxRecDepth 100000 in
theorem zkX10_init : zchk zTb zwX10_init zqX10_init = true := by decide +kernel
set_option maxRecDepth 100000 in
theorem zgX10_thrown : zGood zwX10_thrown := zgood_r _ zpX10_thrown (by decide +kernel) (by decide +kernel)
set_option maxRecDepth 100000 in
theorem zkX10_thrown : zchk zTb zwX10_thrown zqX10_thrown = true := by decide +kernel
set_option maxRecDepth 100000 in
theorem zgX10_no : zGood zwX10_no := zgood_r _ zpX10_no (by decide +kernel) (by decide +kernel)
set_option maxRecDepth 100000 in
theorem zkX10_no : zchk zTb zwX10_no zqX10_no = true := by decide +kernel
set_option maxRecDepth 100000 in
theorem zgX10_isIn : zGood zwX10_isIn := zgood_r _ zpX10_isIn (by decide +kernel) (by decide +kernel)
set_option maxRecDepth 100000 in
theorem zkX10_isIn : zchk zTb zwX10_isIn zqX10_isIn = true := by decide +kernel
set_option maxRecDepth 100000 in
theorem zgX10_isExample : zGood zwX10_isExample := zgood_r _ zpX10_isExample (by decide +kernel) (by decide +kernel)
set_option maxRecDepth 100000 in
theorem zkX10_isExample : zchk zTb zwX10_isExample zqX10_isExample = true := by decide +kernel
set_option maxRecDepth 100000 in
theorem zgX10_read : zGood zwX10_read := zgood_r _ zpX10_read (by decide +kernel) (by decide +kernel)
set_option maxRecDepth 100000 in
theorem zkX10_read : zchk zTb zwX10_read zqX10_read = true := by decide +kernel
set_option maxRecDepth 100000 in
theorem zgX10_tell : zGood zwX10_tell := zgood_r _ zpX10_tell (by decide +kernel) (by decide +kernel)
set_option maxRecDepth 100000 in
theorem zkX10_tell : zchk zTb zwX10_tell zqX10_tell = true := by decide +kernel
set_option maxRecDepth 100000 in
theorem zgX10_size : zGood zwX10_size := zgood_r _ zpX10_size (by decide +kernel) (by decide +kernel)
set_option maxRecDepth 100000 in
theorem zkX10_size : zchk zTb zwX10_size zqX10_size = true := by decide +kernel
set_option maxRecDepth 100000 in
theorem zgX10_part : zGood zwX10_part := zgood_r _ zpX10_part (by decide +kernel) (by decide +kernel)
set_option maxRecDepth 100000 in
theorem zkX10_part : zchk zTb zwX10_part zqX10_part = true := by decide +kernel
set_option maxRecDepth 100000 in
theorem zgX10_countPieces : zGood zwX10_countPieces := zgood_r _ zpX10_countPieces (by decide +kernel) (by decide +kernel)
set_option maxRecDepth 100000 in
theorem zkX10_countPieces : zchk zTb zwX10_countPieces zqX10_countPieces = true := by decide +kernel
set_option maxRecDepth 100000 in
theorem zgX10_findPieces : zGood zwX10_findPieces := zgood_r _ zpX10_findPieces (by decide +kernel) (by decide +kernel)
set_option maxRecDepth 100000 in
theorem zkX10_findPieces : zchk zTb zwX10_findPieces zqX10_findPieces = true := by decide +kernel
set_option maxRecDepth 100000 in
theorem zgX10_add : zGood zwX10_add := zgood_r _ zpX10_add (by decide +kernel) (by decide +kernel)
set_option maxRecDepth 100000 in
theorem zkX10_add : zchk zTb zwX10_add zqX10_add = true := by decide +kernel
set_option maxRecDepth 100000 in
theorem zgX10_mark : zGood zwX10_mark := zgood_r _ zpX10_mark (by decide +kernel) (by decide +kernel)
set_option maxRecDepth 100000 in
theorem zkX10_mark : zchk zTb zwX10_mark zqX10_mark = true := by decide +kernel
set_option maxRecDepth 100000 in
theorem zgX10_drop : zGood zwX10_drop := zgood_r _ zpX10_drop (by decide +kernel) (by decide +kernel)
set_option maxRecDepth 100000 in
theorem zkX10_drop : zchk zTb zwX10_drop zqX10_drop = true := by decide +kernel
set_option maxRecDepth 100000 in
theorem zgX10_setCost : zGood zwX10_setCost := zgood_r _ zpX10_setCost (by decide +kernel) (by decide +kernel)
set_option maxRecDepth 100000 in
theorem zkX10_setCost : zchk zTb zwX10_setCost zqX10_setCost = true := by decide +kernel
set_option maxRecDepth 100000 in
theorem zgX10_exampleCount : zGood zwX10_exampleCount := zgood_r _ zpX10_exampleCount (by decide +kernel) (by decide +kernel)
set_option maxRecDepth 100000 in
theorem zkX10_exampleCount : zchk zTb zwX10_exampleCount zqX10_exampleCount = true := by decide +kernel
set_option maxRecDepth 100000 in
theorem zgX10_example : zGood zwX10_example := zgood_r _ zpX10_example (by decide +kernel) (by decide +kernel)
set_option maxRecDepth 100000 in
theorem zkX10_example : zchk zTb zwX10_example zqX10_example = true := by decide +kernel
set_option maxRecDepth 100000 in
theorem zgX10_isGood : zGood zwX10_isGood := zgood_r _ zpX10_isGood (by decide +kernel) (by decide +kernel)
set_option maxRecDepth 100000 in
theorem zkX10_isGood : zchk zTb zwX10_isGood zqX10_isGood = true := by decide +kernel
set_option maxRecDepth 100000 in
theorem zgX10_pieceCount : zGood zwX10_pieceCount := zgood_r _ zpX10_pieceCount (by decide +kernel) (by decide +kernel)
set_option maxRecDepth 100000 in
theorem zkX10_pieceCount : zchk zTb zwX10_pieceCount zqX10_pieceCount = true := by decide +kernel
set_option maxRecDepth 100000 in
theorem zgX10_piece : zGood zwX10_piece := zgood_r _ zpX10_piece (by decide +kernel) (by decide +kernel)
set_option maxRecDepth 100000 in
theorem zkX10_piece : zchk zTb zwX10_piece zqX10_piece = true := by decide +kernel
set_option maxRecDepth 100000 in
theorem zgX10_has : zGood zwX10_has := zgood_r _ zpX10_has (by decide +kernel) (by decide +kernel)
set_option maxRecDepth 100000 in
theorem zkX10_has : zchk zTb zwX10_has zqX10_has = true := by decide +kernel
set_option maxRecDepth 100000 in
theorem zgX10_chain : zGood zwX10_chain := zgood_r _ zpX10_chain (by decide +kernel) (by decide +kernel)
set_option maxRecDepth 100000 in
theorem zkX10_chain : zchk zTb zwX10_chain zqX10_chain = true := by decide +kernel
set_option maxRecDepth 100000 in
theorem zgX10_repeat : zGood zwX10_repeat := zgood_r _ zpX10_repeat (by decide +kernel) (by decide +kernel)
set_option maxRecDepth 100000 in
theorem zkX10_repeat : zchk zTb zwX10_repeat zqX10_repeat = true := by decide +kernel
set_option maxRecDepth 100000 in
theorem zgX10_table : zGood zwX10_table := zgood_r _ zpX10_table (by decide +kernel) (by decide +kernel)
set_option maxRecDepth 100000 in
theorem zkX10_table : zchk zTb zwX10_table zqX10_table = true := by decide +kernel
set_option maxRecDepth 100000 in
theorem zgX10_isRight : zGood zwX10_isRight := zgood_r _ zpX10_isRight (by decide +kernel) (by decide +kernel)
set_option maxRecDepth 100000 in
theorem zkX10_isRight : zchk zTb zwX10_isRight zqX10_isRight = true := by decide +kernel
set_option maxRecDepth 100000 in
theorem zgX10_offer : zGood zwX10_offer := zgood_r _ zpX10_offer (by decide +kernel) (by decide +kernel)
set_option maxRecDepth 100000 in
theorem zkX10_offer : zchk zTb zwX10_offer zqX10_offer = true := by decide +kernel
set_option maxRecDepth 100000 in
theorem zgX10_offerAll : zGood zwX10_offerAll := zgood_r _ zpX10_offerAll (by decide +kernel) (by decide +kernel)
set_option maxRecDepth 100000 in
theorem zkX10_offerAll : zchk zTb zwX10_offerAll zqX10_offerAll = true := by decide +kernel
set_option maxRecDepth 100000 in
theorem zgX10_look : zGood zwX10_look := zgood_r _ zpX10_look (by decide +kernel) (by decide +kernel)
set_option maxRecDepth 100000 in
theorem zkX10_look : zchk zTb zwX10_look zqX10_look = true := by decide +kernel
set_option maxRecDepth 100000 in
theorem zgX10_write : zGood zwX10_write := zgood_r _ zpX10_write (by decide +kernel) (by decide +kernel)
set_option maxRecDepth 100000 in
theorem zkX10_write : zchk zTb zwX10_write zqX10_write = true := by decide +kernel
set_option maxRecDepth 100000 in
theorem zgX10_kept : zGood zwX10_kept := zgood_r _ zpX10_kept (by decide +kernel) (by decide +kernel)
set_option maxRecDepth 100000 in
theorem zkX10_kept : zchk zTb zwX10_kept zqX10_kept = true := by decide +kernel
set_option maxRecDepth 100000 in
theorem zgX10_isFound : zGood zwX10_isFound := zgood_r _ zpX10_isFound (by decide +kernel) (by decide +kernel)
set_option maxRecDepth 100000 in
theorem zkX10_isFound : zchk zTb zwX10_isFound zqX10_isFound = true := by decide +kernel
set_option maxRecDepth 100000 in
theorem zgX10_kindAt : zGood zwX10_kindAt := zgood_r _ zpX10_kindAt (by decide +kernel) (by decide +kernel)
set_option maxRecDepth 100000 in
theorem zkX10_kindAt : zchk zTb zwX10_kindAt zqX10_kindAt = true := by decide +kernel
set_option maxRecDepth 100000 in
theorem zgX10_behind : zGood zwX10_behind := zgood_r _ zpX10_behind (by decide +kernel) (by decide +kernel)
set_option maxRecDepth 100000 in
theorem zkX10_behind : zchk zTb zwX10_behind zqX10_behind = true := by decide +kernel
set_option maxRecDepth 100000 in
theorem zgX10_asks : zGood zwX10_asks := zgood_r _ zpX10_asks (by decide +kernel) (by decide +kernel)
set_option maxRecDepth 100000 in
theorem zkX10_asks : zchk zTb zwX10_asks zqX10_asks = true := by decide +kernel
set_option maxRecDepth 100000 in
theorem zgX10_nodeCount : zGood zwX10_nodeCount := zgood_r _ zpX10_nodeCount (by decide +kernel) (by decide +kernel)
set_option maxRecDepth 100000 in
theorem zkX10_nodeCount : zchk zTb zwX10_nodeCount zqX10_nodeCount = true := by decide +kernel
set_option maxRecDepth 100000 in
theorem zgX10_kind : zGood zwX10_kind := zgood_r _ zpX10_kind (by decide +kernel) (by decide +kernel)
set_option maxRecDepth 100000 in
theorem zkX10_kind : zchk zTb zwX10_kind zqX10_kind = true := by decide +kernel
set_option maxRecDepth 100000 in
theorem zgX10_part_ : zGood zwX10_part_ := zgood_r _ zpX10_part_ (by decide +kernel) (by decide +kernel)
set_option maxRecDepth 100000 in
theorem zkX10_part_ : zchk zTb zwX10_part_ zqX10_part_ = true := by decide +kernel
set_option maxRecDepth 100000 in
theorem zgX10_put : zGood zwX10_put := zgood_r _ zpX10_put (by decide +kernel) (by decide +kernel)
set_option maxRecDepth 100000 in
theorem zkX10_put : zchk zTb zwX10_put zqX10_put = true := by decide +kernel
set_option maxRecDepth 100000 in
theorem zgX10_print : zGood zwX10_print := zgood_r _ zpX10_print (by decide +kernel) (by decide +kernel)
set_option maxRecDepth 100000 in
theorem zkX10_print : zchk zTb zwX10_print zqX10_print = true := by decide +kernel
set_option maxRecDepth 100000 in
theorem zgX10_printAll : zGood zwX10_printAll := zgood_r _ zpX10_printAll (by decide +kernel) (by decide +kernel)
set_option maxRecDepth 100000 in
theorem zkX10_printAll : zchk zTb zwX10_printAll zqX10_printAll = true := by decide +kernel
set_option maxRecDepth 100000 in
theorem zgX10_textSize : zGood zwX10_textSize := zgood_r _ zpX10_textSize (by decide +kernel) (by decide +kernel)
set_option maxRecDepth 100000 in
theorem zkX10_textSize : zchk zTb zwX10_textSize zqX10_textSize = true := by decide +kernel
set_option maxRecDepth 100000 in
theorem zgX10_text : zGood zwX10_text := zgood_r _ zpX10_text (by decide +kernel) (by decide +kernel)
set_option maxRecDepth 100000 in
theorem zkX10_text : zchk zTb zwX10_text zqX10_text = true := by decide +kernel
set_option maxRecDepth 100000 in
theorem zgX10_bit : zGood zwX10_bit := zgood_r _ zpX10_bit (by decide +kernel) (by decide +kernel)
set_option maxRecDepth 100000 in
theorem zkX10_bit : zchk zTb zwX10_bit zqX10_bit = true := by decide +kernel
