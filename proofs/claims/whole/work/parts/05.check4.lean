set_option maxRecDepth 100000 in
theorem zgX10_chainParts : zGood zwX10_chainParts := zgood_r _ zpX10_chainParts (by decide +kernel) (by decide +kernel)
set_option maxRecDepth 100000 in
theorem zkX10_chainParts : zchk zTb zwX10_chainParts zqX10_chainParts = true := by decide +kernel
set_option maxRecDepth 100000 in
theorem zgX10_empties : zGood zwX10_empties := zgood_r _ zpX10_empties (by decide +kernel) (by decide +kernel)
set_option maxRecDepth 100000 in
theorem zkX10_empties : zchk zTb zwX10_empties zqX10_empties = true := by decide +kernel
set_option maxRecDepth 100000 in
theorem zgX10_match : zGood zwX10_match := zgood_r _ zpX10_match (by decide +kernel) (by decide +kernel)
set_option maxRecDepth 100000 in
theorem zkX10_match : zchk zTb zwX10_match zqX10_match = true := by decide +kernel
set_option maxRecDepth 100000 in
theorem zgX10_matches : zGood zwX10_matches := zgood_r _ zpX10_matches (by decide +kernel) (by decide +kernel)
set_option maxRecDepth 100000 in
theorem zkX10_matches : zchk zTb zwX10_matches zqX10_matches = true := by decide +kernel
set_option maxRecDepth 100000 in
theorem zgX10_isWord : zGood zwX10_isWord := zgood_r _ zpX10_isWord (by decide +kernel) (by decide +kernel)
set_option maxRecDepth 100000 in
theorem zkX10_isWord : zchk zTb zwX10_isWord zqX10_isWord = true := by decide +kernel
set_option maxRecDepth 100000 in
theorem zgX10_count : zGood zwX10_count := zgood_r _ zpX10_count (by decide +kernel) (by decide +kernel)
set_option maxRecDepth 100000 in
theorem zkX10_count : zchk zTb zwX10_count zqX10_count = true := by decide +kernel
set_option maxRecDepth 100000 in
theorem zgX10_first : zGood zwX10_first := zgood_r _ zpX10_first (by decide +kernel) (by decide +kernel)
set_option maxRecDepth 100000 in
theorem zkX10_first : zchk zTb zwX10_first zqX10_first = true := by decide +kernel
set_option maxRecDepth 100000 in
theorem zgX10_share : zGood zwX10_share := zgood_r _ zpX10_share (by decide +kernel) (by decide +kernel)
set_option maxRecDepth 100000 in
theorem zkX10_share : zchk zTb zwX10_share zqX10_share = true := by decide +kernel
set_option maxRecDepth 100000 in
theorem zgX10_push : zGood zwX10_push := zgood_r _ zpX10_push (by decide +kernel) (by decide +kernel)
set_option maxRecDepth 100000 in
theorem zkX10_push : zchk zTb zwX10_push zqX10_push = true := by decide +kernel
set_option maxRecDepth 100000 in
theorem zgX10_putAhead : zGood zwX10_putAhead := zgood_r _ zpX10_putAhead (by decide +kernel) (by decide +kernel)
set_option maxRecDepth 100000 in
theorem zkX10_putAhead : zchk zTb zwX10_putAhead zqX10_putAhead = true := by decide +kernel
set_option maxRecDepth 100000 in
theorem zgX10_wrap : zGood zwX10_wrap := zgood_r _ zpX10_wrap (by decide +kernel) (by decide +kernel)
set_option maxRecDepth 100000 in
theorem zkX10_wrap : zchk zTb zwX10_wrap zqX10_wrap = true := by decide +kernel
set_option maxRecDepth 100000 in
theorem zgX10_join : zGood zwX10_join := zgood_r _ zpX10_join (by decide +kernel) (by decide +kernel)
set_option maxRecDepth 100000 in
theorem zkX10_join : zchk zTb zwX10_join zqX10_join = true := by decide +kernel
set_option maxRecDepth 100000 in
theorem zgX10_take : zGood zwX10_take := zgood_r _ zpX10_take (by decide +kernel) (by decide +kernel)
set_option maxRecDepth 100000 in
theorem zkX10_take : zchk zTb zwX10_take zqX10_take = true := by decide +kernel
set_option maxRecDepth 100000 in
theorem zgX10_pop : zGood zwX10_pop := zgood_r _ zpX10_pop (by decide +kernel) (by decide +kernel)
set_option maxRecDepth 100000 in
theorem zkX10_pop : zchk zTb zwX10_pop zqX10_pop = true := by decide +kernel
set_option maxRecDepth 100000 in
theorem zgX10_costOf : zGood zwX10_costOf := zgood_r _ zpX10_costOf (by decide +kernel) (by decide +kernel)
set_option maxRecDepth 100000 in
theorem zkX10_costOf : zchk zTb zwX10_costOf zqX10_costOf = true := by decide +kernel
set_option maxRecDepth 100000 in
theorem zgX10_topCost : zGood zwX10_topCost := zgood_r _ zpX10_topCost (by decide +kernel) (by decide +kernel)
set_option maxRecDepth 100000 in
theorem zkX10_topCost : zchk zTb zwX10_topCost zqX10_topCost = true := by decide +kernel
set_option maxRecDepth 100000 in
theorem zgX10_topMatches : zGood zwX10_topMatches := zgood_r _ zpX10_topMatches (by decide +kernel) (by decide +kernel)
set_option maxRecDepth 100000 in
theorem zkX10_topMatches : zchk zTb zwX10_topMatches zqX10_topMatches = true := by decide +kernel
set_option maxRecDepth 100000 in
theorem zgX10_topWrong : zGood zwX10_topWrong := zgood_r _ zpX10_topWrong (by decide +kernel) (by decide +kernel)
set_option maxRecDepth 100000 in
theorem zkX10_topWrong : zchk zTb zwX10_topWrong zqX10_topWrong = true := by decide +kernel
set_option maxRecDepth 100000 in
theorem zgX10_digest : zGood zwX10_digest := zgood_r _ zpX10_digest (by decide +kernel) (by decide +kernel)
set_option maxRecDepth 100000 in
theorem zkX10_digest : zchk zTb zwX10_digest zqX10_digest = true := by decide +kernel
set_option maxRecDepth 100000 in
theorem zgJ13_bitCount_95d88 : zGood zwJ13_bitCount_95d88 := zgood_r _ zpJ13_bitCount_95d88 (by decide +kernel) (by decide +kernel)
set_option maxRecDepth 100000 in
theorem zkJ13_bitCount_95d88 : zchk zTb zwJ13_bitCount_95d88 zqJ13_bitCount_95d88 = true := by decide +kernel
set_option maxRecDepth 100000 in
theorem zgL_add : zGood zwL_add := zgood_r _ zpL_add (by decide +kernel) (by decide +kernel)
set_option maxRecDepth 100000 in
theorem zkL_add : zchk zTb zwL_add zqL_add = true := by decide +kernel
set_option maxRecDepth 100000 in
theorem zgL_mark : zGood zwL_mark := zgood_r _ zpL_mark (by decide +kernel) (by decide +kernel)
set_option maxRecDepth 100000 in
theorem zkL_mark : zchk zTb zwL_mark zqL_mark = true := by decide +kernel
set_option maxRecDepth 100000 in
theorem zgL_drop : zGood zwL_drop := zgood_r _ zpL_drop (by decide +kernel) (by decide +kernel)
set_option maxRecDepth 100000 in
theorem zkL_drop : zchk zTb zwL_drop zqL_drop = true := by decide +kernel
set_option maxRecDepth 100000 in
theorem zgL_setCost : zGood zwL_setCost := zgood_r _ zpL_setCost (by decide +kernel) (by decide +kernel)
set_option maxRecDepth 100000 in
theorem zkL_setCost : zchk zTb zwL_setCost zqL_setCost = true := by decide +kernel
set_option maxRecDepth 100000 in
theorem zgL_example : zGood zwL_example := zgood_r _ zpL_example (by decide +kernel) (by decide +kernel)
set_option maxRecDepth 100000 in
theorem zkL_example : zchk zTb zwL_example zqL_example = true := by decide +kernel
set_option maxRecDepth 100000 in
theorem zgL_isGood : zGood zwL_isGood := zgood_r _ zpL_isGood (by decide +kernel) (by decide +kernel)
set_option maxRecDepth 100000 in
theorem zkL_isGood : zchk zTb zwL_isGood zqL_isGood = true := by decide +kernel
set_option maxRecDepth 100000 in
theorem zgL_piece : zGood zwL_piece := zgood_r _ zpL_piece (by decide +kernel) (by decide +kernel)
set_option maxRecDepth 100000 in
theorem zkL_piece : zchk zTb zwL_piece zqL_piece = true := by decide +kernel
set_option maxRecDepth 100000 in
theorem zgL_look : zGood zwL_look := zgood_r _ zpL_look (by decide +kernel) (by decide +kernel)
set_option maxRecDepth 100000 in
theorem zkL_look : zchk zTb zwL_look zqL_look = true := by decide +kernel
set_option maxRecDepth 100000 in
theorem zgL_nodeCount : zGood zwL_nodeCount := zgood_r _ zpL_nodeCount (by decide +kernel) (by decide +kernel)
set_option maxRecDepth 100000 in
theorem zkL_nodeCount : zchk zTb zwL_nodeCount zqL_nodeCount = true := by decide +kernel
set_option maxRecDepth 100000 in
theorem zgL_kind : zGood zwL_kind := zgood_r _ zpL_kind (by decide +kernel) (by decide +kernel)
set_option maxRecDepth 100000 in
theorem zkL_kind : zchk zTb zwL_kind zqL_kind = true := by decide +kernel
set_option maxRecDepth 100000 in
theorem zgL_part : zGood zwL_part := zgood_r _ zpL_part (by decide +kernel) (by decide +kernel)
set_option maxRecDepth 100000 in
theorem zkL_part : zchk zTb zwL_part zqL_part = true := by decide +kernel
set_option maxRecDepth 100000 in
theorem zgL_textSize : zGood zwL_textSize := zgood_r _ zpL_textSize (by decide +kernel) (by decide +kernel)
set_option maxRecDepth 100000 in
theorem zkL_textSize : zchk zTb zwL_textSize zqL_textSize = true := by decide +kernel
set_option maxRecDepth 100000 in
theorem zgL_text : zGood zwL_text := zgood_r _ zpL_text (by decide +kernel) (by decide +kernel)
set_option maxRecDepth 100000 in
theorem zkL_text : zchk zTb zwL_text zqL_text = true := by decide +kernel
set_option maxRecDepth 100000 in
theorem zgL_matches : zGood zwL_matches := zgood_r _ zpL_matches (by decide +kernel) (by decide +kernel)
set_option maxRecDepth 100000 in
theorem zkL_matches : zchk zTb zwL_matches zqL_matches = true := by decide +kernel
set_option maxRecDepth 100000 in
theorem zgL_count : zGood zwL_count := zgood_r _ zpL_count (by decide +kernel) (by decide +kernel)
set_option maxRecDepth 100000 in
theorem zkL_count : zchk zTb zwL_count zqL_count = true := by decide +kernel
set_option maxRecDepth 100000 in
theorem zgL_first : zGood zwL_first := zgood_r _ zpL_first (by decide +kernel) (by decide +kernel)
set_option maxRecDepth 100000 in
theorem zkL_first : zchk zTb zwL_first zqL_first = true := by decide +kernel
set_option maxRecDepth 100000 in
theorem zgL_share : zGood zwL_share := zgood_r _ zpL_share (by decide +kernel) (by decide +kernel)
set_option maxRecDepth 100000 in
theorem zkL_share : zchk zTb zwL_share zqL_share = true := by decide +kernel
set_option maxRecDepth 100000 in
theorem zgL_push : zGood zwL_push := zgood_r _ zpL_push (by decide +kernel) (by decide +kernel)
set_option maxRecDepth 100000 in
theorem zkL_push : zchk zTb zwL_push zqL_push = true := by decide +kernel
set_option maxRecDepth 100000 in
theorem zgL_wrap : zGood zwL_wrap := zgood_r _ zpL_wrap (by decide +kernel) (by decide +kernel)
set_option maxRecDepth 100000 in
theorem zkL_wrap : zchk zTb zwL_wrap zqL_wrap = true := by decide +kernel
set_option maxRecDepth 100000 in
theorem zgL_join : zGood zwL_join := zgood_r _ zpL_join (by decide +kernel) (by decide +kernel)
set_option maxRecDepth 100000 in
theorem zkL_join : zchk zTb zwL_join zqL_join = true := by decide +kernel
set_option maxRecDepth 100000 in
theorem zgL_take : zGood zwL_take := zgood_r _ zpL_take (by decide +kernel) (by decide +kernel)
set_option maxRecDepth 100000 in
theorem zkL_take : zchk zTb zwL_take zqL_take = true := by decide +kernel
set_option maxRecDepth 100000 in
theorem zgL_pop : zGood zwL_pop := zgood_r _ zpL_pop (by decide +kernel) (by decide +kernel)
set_option maxRecDepth 100000 in
theorem zkL_pop : zchk zTb zwL_pop zqL_pop = true := by decide +kernel
set_option maxRecDepth 100000 in
theorem zgL_topCost : zGood zwL_topCost := zgood_r _ zpL_topCost (by decide +kernel) (by decide +kernel)
set_option maxRecDepth 100000 in
theorem zkL_topCost : zchk zTb zwL_topCost zqL_topCost = true := by decide +kernel
set_option maxRecDepth 100000 in
theorem zgL_topMatches : zGood zwL_topMatches := zgood_r _ zpL_topMatches (by decide +kernel) (by decide +kernel)
set_option maxRecDepth 100000 in
theorem zkL_topMatches : zchk zTb zwL_topMatches zqL_topMatches = true := by decide +kernel
set_option maxRecDepth 100000 in
theorem zgL_topWrong : zGood zwL_topWrong := zgood_r _ zpL_topWrong (by decide +kernel) (by decide +kernel)
set_option maxRecDepth 100000 in
theorem zkL_topWrong : zchk zTb zwL_topWrong zqL_topWrong = true := by decide +kernel
