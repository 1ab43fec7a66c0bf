theorem zlaw_ok : zLawOK := sorry
