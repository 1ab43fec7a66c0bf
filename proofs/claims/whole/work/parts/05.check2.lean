set_option maxRecDepth 100000 in
theorem zgX6_holds : zGood zwX6_holds := zgood_r _ zpX6_holds (by decide +kernel) (by decide +kernel)
set_option maxRecDepth 100000 in
theorem zkX6_holds : zchk zTb zwX6_holds zqX6_holds = true := by decide +kernel
set_option maxRecDepth 100000 in
theorem zgX6_slotOf : zGood zwX6_slotOf := zgood_r _ zpX6_slotOf (by decide +kernel) (by decide +kernel)
set_option maxRecDepth 100000 in
theorem zkX6_slotOf : zchk zTb zwX6_slotOf zqX6_slotOf = true := by decide +kernel
set_option maxRecDepth 100000 in
theorem zgX6_append : zGood zwX6_append := zgood_r _ zpX6_append (by decide +kernel) (by decide +kernel)
set_option maxRecDepth 100000 in
theorem zkX6_append : zchk zTb zwX6_append zqX6_append = true := by decide +kernel
set_option maxRecDepth 100000 in
theorem zgX6_nodesOf : zGood zwX6_nodesOf := zgood_r _ zpX6_nodesOf (by decide +kernel) (by decide +kernel)
set_option maxRecDepth 100000 in
theorem zkX6_nodesOf : zchk zTb zwX6_nodesOf zqX6_nodesOf = true := by decide +kernel
set_option maxRecDepth 100000 in
theorem zgX6_totalOf : zGood zwX6_totalOf := zgood_r _ zpX6_totalOf (by decide +kernel) (by decide +kernel)
set_option maxRecDepth 100000 in
theorem zkX6_totalOf : zchk zTb zwX6_totalOf zqX6_totalOf = true := by decide +kernel
set_option maxRecDepth 100000 in
theorem zgX6_tableOf : zGood zwX6_tableOf := zgood_r _ zpX6_tableOf (by decide +kernel) (by decide +kernel)
set_option maxRecDepth 100000 in
theorem zkX6_tableOf : zchk zTb zwX6_tableOf zqX6_tableOf = true := by decide +kernel
set_option maxRecDepth 100000 in
theorem zgX6_lastTable : zGood zwX6_lastTable := zgood_r _ zpX6_lastTable (by decide +kernel) (by decide +kernel)
set_option maxRecDepth 100000 in
theorem zkX6_lastTable : zchk zTb zwX6_lastTable zqX6_lastTable = true := by decide +kernel
set_option maxRecDepth 100000 in
theorem zgX6_repeatTable : zGood zwX6_repeatTable := zgood_r _ zpX6_repeatTable (by decide +kernel) (by decide +kernel)
set_option maxRecDepth 100000 in
theorem zkX6_repeatTable : zchk zTb zwX6_repeatTable zqX6_repeatTable = true := by decide +kernel
set_option maxRecDepth 100000 in
theorem zgX6_chainTable : zGood zwX6_chainTable := zgood_r _ zpX6_chainTable (by decide +kernel) (by decide +kernel)
set_option maxRecDepth 100000 in
theorem zkX6_chainTable : zchk zTb zwX6_chainTable zqX6_chainTable = true := by decide +kernel
set_option maxRecDepth 100000 in
theorem zgX6_unroll : zGood zwX6_unroll := zgood_r _ zpX6_unroll (by decide +kernel) (by decide +kernel)
set_option maxRecDepth 100000 in
theorem zkX6_unroll : zchk zTb zwX6_unroll zqX6_unroll = true := by decide +kernel
set_option maxRecDepth 100000 in
theorem zgX7_init : zGood zwX7_init := zgood_r _ zpX7_init (by decide +kernel) (by decide +kernel)
set_option maxRecDepth 100000 in
theorem zkX7_init : zchk zTb zwX7_init zqX7_init = true := by decide +kernel
set_option maxRecDepth 100000 in
theorem zgX7_fits : zGood zwX7_fits := zgood_r _ zpX7_fits (by decide +kernel) (by decide +kernel)
set_option maxRecDepth 100000 in
theorem zkX7_fits : zchk zTb zwX7_fits zqX7_fits = true := by decide +kernel
set_option maxRecDepth 100000 in
theorem zgX7_spell : zGood zwX7_spell := zgood_r _ zpX7_spell (by decide +kernel) (by decide +kernel)
set_option maxRecDepth 100000 in
theorem zkX7_spell : zchk zTb zwX7_spell zqX7_spell = true := by decide +kernel
set_option maxRecDepth 100000 in
theorem zgX7_endsOf : zGood zwX7_endsOf := zgood_r _ zpX7_endsOf (by decide +kernel) (by decide +kernel)
set_option maxRecDepth 100000 in
theorem zkX7_endsOf : zchk zTb zwX7_endsOf zqX7_endsOf = true := by decide +kernel
set_option maxRecDepth 100000 in
theorem zgX7_endsFrom : zGood zwX7_endsFrom := zgood_r _ zpX7_endsFrom (by decide +kernel) (by decide +kernel)
set_option maxRecDepth 100000 in
theorem zkX7_endsFrom : zchk zTb zwX7_endsFrom zqX7_endsFrom = true := by decide +kernel
set_option maxRecDepth 100000 in
theorem zgX7_endsBehind : zGood zwX7_endsBehind := zgood_r _ zpX7_endsBehind (by decide +kernel) (by decide +kernel)
set_option maxRecDepth 100000 in
theorem zkX7_endsBehind : zchk zTb zwX7_endsBehind zqX7_endsBehind = true := by decide +kernel
set_option maxRecDepth 100000 in
theorem zgX8_isLetter : zGood zwX8_isLetter := zgood_r _ zpX8_isLetter (by decide +kernel) (by decide +kernel)
set_option maxRecDepth 100000 in
theorem zkX8_isLetter : zchk zTb zwX8_isLetter zqX8_isLetter = true := by decide +kernel
set_option maxRecDepth 100000 in
theorem zgX8_isWord : zGood zwX8_isWord := zgood_r _ zpX8_isWord (by decide +kernel) (by decide +kernel)
set_option maxRecDepth 100000 in
theorem zkX8_isWord : zchk zTb zwX8_isWord zqX8_isWord = true := by decide +kernel
set_option maxRecDepth 100000 in
theorem zgX8_packed : zGood zwX8_packed := zgood_r _ zpX8_packed (by decide +kernel) (by decide +kernel)
set_option maxRecDepth 100000 in
theorem zkX8_packed : zchk zTb zwX8_packed zqX8_packed = true := by decide +kernel
set_option maxRecDepth 100000 in
theorem zgX8_lengthOf : zGood zwX8_lengthOf := zgood_r _ zpX8_lengthOf (by decide +kernel) (by decide +kernel)
set_option maxRecDepth 100000 in
theorem zkX8_lengthOf : zchk zTb zwX8_lengthOf zqX8_lengthOf = true := by decide +kernel
set_option maxRecDepth 100000 in
theorem zgX8_ending : zGood zwX8_ending := zgood_r _ zpX8_ending (by decide +kernel) (by decide +kernel)
set_option maxRecDepth 100000 in
theorem zkX8_ending : zchk zTb zwX8_ending zqX8_ending = true := by decide +kernel
set_option maxRecDepth 100000 in
theorem zgX8_placeOfFirst : zGood zwX8_placeOfFirst := zgood_r _ zpX8_placeOfFirst (by decide +kernel) (by decide +kernel)
set_option maxRecDepth 100000 in
theorem zkX8_placeOfFirst : zchk zTb zwX8_placeOfFirst zqX8_placeOfFirst = true := by decide +kernel
set_option maxRecDepth 100000 in
theorem zgX8_atPlace : zGood zwX8_atPlace := zgood_r _ zpX8_atPlace (by decide +kernel) (by decide +kernel)
set_option maxRecDepth 100000 in
theorem zkX8_atPlace : zchk zTb zwX8_atPlace zqX8_atPlace = true := by decide +kernel
set_option maxRecDepth 100000 in
theorem zgX9_init : zGood zwX9_init := zgood_r _ zpX9_init (by decide +kernel) (by decide +kernel)
set_option maxRecDepth 100000 in
theorem zkX9_init : zchk zTb zwX9_init zqX9_init = true := by decide +kernel
set_option maxRecDepth 100000 in
theorem zgX9_add : zGood zwX9_add := zgood_r _ zpX9_add (by decide +kernel) (by decide +kernel)
set_option maxRecDepth 100000 in
theorem zkX9_add : zchk zTb zwX9_add zqX9_add = true := by decide +kernel
set_option maxRecDepth 100000 in
theorem zgX9_mark : zGood zwX9_mark := zgood_r _ zpX9_mark (by decide +kernel) (by decide +kernel)
set_option maxRecDepth 100000 in
theorem zkX9_mark : zchk zTb zwX9_mark zqX9_mark = true := by decide +kernel
set_option maxRecDepth 100000 in
theorem zgX9_drop : zGood zwX9_drop := zgood_r _ zpX9_drop (by decide +kernel) (by decide +kernel)
set_option maxRecDepth 100000 in
theorem zkX9_drop : zchk zTb zwX9_drop zqX9_drop = true := by decide +kernel
set_option maxRecDepth 100000 in
theorem zgX9_setCost : zGood zwX9_setCost := zgood_r _ zpX9_setCost (by decide +kernel) (by decide +kernel)
set_option maxRecDepth 100000 in
theorem zkX9_setCost : zchk zTb zwX9_setCost zqX9_setCost = true := by decide +kernel
set_option maxRecDepth 100000 in
theorem zgX9_exampleCount : zGood zwX9_exampleCount := zgood_r _ zpX9_exampleCount (by decide +kernel) (by decide +kernel)
set_option maxRecDepth 100000 in
theorem zkX9_exampleCount : zchk zTb zwX9_exampleCount zqX9_exampleCount = true := by decide +kernel
set_option maxRecDepth 100000 in
theorem zgX9_example : zGood zwX9_example := zgood_r _ zpX9_example (by decide +kernel) (by decide +kernel)
set_option maxRecDepth 100000 in
theorem zkX9_example : zchk zTb zwX9_example zqX9_example = true := by decide +kernel
set_option maxRecDepth 100000 in
theorem zgX9_isGood : zGood zwX9_isGood := zgood_r _ zpX9_isGood (by decide +kernel) (by decide +kernel)
set_option maxRecDepth 100000 in
theorem zkX9_isGood : zchk zTb zwX9_isGood zqX9_isGood = true := by decide +kernel
set_option maxRecDepth 100000 in
theorem zgX9_pieceCount : zGood zwX9_pieceCount := zgood_r _ zpX9_pieceCount (by decide +kernel) (by decide +kernel)
set_option maxRecDepth 100000 in
theorem zkX9_pieceCount : zchk zTb zwX9_pieceCount zqX9_pieceCount = true := by decide +kernel
set_option maxRecDepth 100000 in
theorem zgX9_piece : zGood zwX9_piece := zgood_r _ zpX9_piece (by decide +kernel) (by decide +kernel)
set_option maxRecDepth 100000 in
theorem zkX9_piece : zchk zTb zwX9_piece zqX9_piece = true := by decide +kernel
set_option maxRecDepth 100000 in
theorem zgX9_look : zGood zwX9_look := zgood_r _ zpX9_look (by decide +kernel) (by decide +kernel)
set_option maxRecDepth 100000 in
theorem zkX9_look : zchk zTb zwX9_look zqX9_look = true := by decide +kernel
set_option maxRecDepth 100000 in
theorem zgX9_kept : zGood zwX9_kept := zgood_r _ zpX9_kept (by decide +kernel) (by decide +kernel)
set_option maxRecDepth 100000 in
theorem zkX9_kept : zchk zTb zwX9_kept zqX9_kept = true := by decide +kernel
set_option maxRecDepth 100000 in
theorem zgX9_isFound : zGood zwX9_isFound := zgood_r _ zpX9_isFound (by decide +kernel) (by decide +kernel)
set_option maxRecDepth 100000 in
theorem zkX9_isFound : zchk zTb zwX9_isFound zqX9_isFound = true := by decide +kernel
set_option maxRecDepth 100000 in
theorem zgX9_nodeCount : zGood zwX9_nodeCount := zgood_r _ zpX9_nodeCount (by decide +kernel) (by decide +kernel)
set_option maxRecDepth 100000 in
theorem zkX9_nodeCount : zchk zTb zwX9_nodeCount zqX9_nodeCount = true := by decide +kernel
set_option maxRecDepth 100000 in
theorem zgX9_kind : zGood zwX9_kind := zgood_r _ zpX9_kind (by decide +kernel) (by decide +kernel)
set_option maxRecDepth 100000 in
theorem zkX9_kind : zchk zTb zwX9_kind zqX9_kind = true := by decide +kernel
set_option maxRecDepth 100000 in
theorem zgX9_part : zGood zwX9_part := zgood_r _ zpX9_part (by decide +kernel) (by decide +kernel)
set_option maxRecDepth 100000 in
theorem zkX9_part : zchk zTb zwX9_part zqX9_part = true := by decide +kernel
set_option maxRecDepth 100000 in
theorem zgX9_textSize : zGood zwX9_textSize := zgood_r _ zpX9_textSize (by decide +kernel) (by decide +kernel)
set_option maxRecDepth 100000 in
theorem zkX9_textSize : zchk zTb zwX9_textSize zqX9_textSize = true := by decide +kernel
set_option maxRecDepth 100000 in
theorem zgX9_text : zGood zwX9_text := zgood_r _ zpX9_text (by decide +kernel) (by decide +kernel)
set_option maxRecDepth 100000 in
theorem zkX9_text : zchk zTb zwX9_text zqX9_text = true := by decide +kernel
set_option maxRecDepth 100000 in
theorem zgX9_matches : zGood zwX9_matches := zgood_r _ zpX9_matches (by decide +kernel) (by decide +kernel)
set_option maxRecDepth 100000 in
theorem zkX9_matches : zchk zTb zwX9_matches zqX9_matches = true := by decide +kernel
set_option maxRecDepth 100000 in
theorem zgX9_count : zGood zwX9_count := zgood_r _ zpX9_count (by decide +kernel) (by decide +kernel)
set_option maxRecDepth 100000 in
theorem zkX9_count : zchk zTb zwX9_count zqX9_count = true := by decide +kernel
set_option maxRecDepth 100000 in
theorem zgX9_first : zGood zwX9_first := zgood_r _ zpX9_first (by decide +kernel) (by decide +kernel)
set_option maxRecDepth 100000 in
theorem zkX9_first : zchk zTb zwX9_first zqX9_first = true := by decide +kernel
set_option maxRecDepth 100000 in
theorem zgX9_share : zGood zwX9_share := zgood_r _ zpX9_share (by decide +kernel) (by decide +kernel)
set_option maxRecDepth 100000 in
theorem zkX9_share : zchk zTb zwX9_share zqX9_share = true := by decide +kernel
set_option maxRecDepth 100000 in
theorem zgX9_needFound : zGood zwX9_needFound := zgood_r _ zpX9_needFound (by decide +kernel) (by decide +kernel)
set_option maxRecDepth 100000 in
theorem zkX9_needFound : zchk zTb zwX9_needFound zqX9_needFound = true := by decide +kernel
set_option maxRecDepth 100000 in
theorem zgX9_needNode : zGood zwX9_needNode := zgood_r _ zpX9_needNode (by decide +kernel) (by decide +kernel)
set_option maxRecDepth 100000 in
theorem zkX9_needNode : zchk zTb zwX9_needNode zqX9_needNode = true := by decide +kernel
set_option maxRecDepth 100000 in
theorem zgX9_needWord : zGood zwX9_needWord := zgood_r _ zpX9_needWord (by decide +kernel) (by decide +kernel)
set_option maxRecDepth 100000 in
theorem zkX9_needWord : zchk zTb zwX9_needWord zqX9_needWord = true := by decide +kernel
set_option maxRecDepth 100000 in
theorem zgX9_push : zGood zwX9_push := zgood_r _ zpX9_push (by decide +kernel) (by decide +kernel)
set_option maxRecDepth 100000 in
theorem zkX9_push : zchk zTb zwX9_push zqX9_push = true := by decide +kernel
set_option maxRecDepth 100000 in
theorem zgX9_wrap : zGood zwX9_wrap := zgood_r _ zpX9_wrap (by decide +kernel) (by decide +kernel)
set_option maxRecDepth 100000 in
theorem zkX9_wrap : zchk zTb zwX9_wrap zqX9_wrap = true := by decide +kernel
set_option maxRecDepth 100000 in
theorem zgX9_join : zGood zwX9_join := zgood_r _ zpX9_join (by decide +kernel) (by decide +kernel)
set_option maxRecDepth 100000 in
theorem zkX9_join : zchk zTb zwX9_join zqX9_join = true := by decide +kernel
set_option maxRecDepth 100000 in
theorem zgX9_take : zGood zwX9_take := zgood_r _ zpX9_take (by decide +kernel) (by decide +kernel)
set_option maxRecDepth 100000 in
theorem zkX9_take : zchk zTb zwX9_take zqX9_take = true := by decide +kernel
set_option maxRecDepth 100000 in
theorem zgX9_pop : zGood zwX9_pop := zgood_r _ zpX9_pop (by decide +kernel) (by decide +kernel)
set_option maxRecDepth 100000 in
theorem zkX9_pop : zchk zTb zwX9_pop zqX9_pop = true := by decide +kernel
set_option maxRecDepth 100000 in
theorem zgX9_topCost : zGood zwX9_topCost := zgood_r _ zpX9_topCost (by decide +kernel) (by decide +kernel)
set_option maxRecDepth 100000 in
theorem zkX9_topCost : zchk zTb zwX9_topCost zqX9_topCost = true := by decide +kernel
set_option maxRecDepth 100000 in
theorem zgX9_topMatches : zGood zwX9_topMatches := zgood_r _ zpX9_topMatches (by decide +kernel) (by decide +kernel)
set_option maxRecDepth 100000 in
theorem zkX9_topMatches : zchk zTb zwX9_topMatches zqX9_topMatches = true := by decide +kernel
set_option maxRecDepth 100000 in
theorem zgX9_topWrong : zGood zwX9_topWrong := zgood_r _ zpX9_topWrong (by decide +kernel) (by decide +kernel)
set_option maxRecDepth 100000 in
theorem zkX9_topWrong : zchk zTb zwX9_topWrong zqX9_topWrong = true := by decide +kernel
set_option maxRecDepth 100000 in
theorem zgX9_needTop : zGood zwX9_needTop := zgood_r _ zpX9_needTop (by decide +kernel) (by decide +kernel)
set_option maxRecDepth 100000 in
theorem zkX9_needTop : zchk zTb zwX9_needTop zqX9_needTop = true := by decide +kernel
set_option maxRecDepth 100000 in
theorem zgX9_digest : zGood zwX9_digest := zgood_r _ zpX9_digest (by decide +kernel) (by decide +kernel)
set_option maxRecDepth 100000 in
theorem zkX9_digest : zchk zTb zwX9_digest zqX9_digest = true := by decide +kernel
