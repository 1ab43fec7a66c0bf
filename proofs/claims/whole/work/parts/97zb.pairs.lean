/-! THE LAW: each call of the two -/
section
variable {d n np kp ps L N : Nat} {f : zF} {m : zM} {X P : Nat → List Nat} {G : Nat → Bool} {C : Nat → Nat} {fd thr j c l : Int} {ft : zE} {T : Nat → zE} {xs : Nat → Int32} {b : Bool}
theorem b_mark (hd : 200 ≤ d) (hS : lwS f L xs thr n X G P np C kp fd ft ps T) (h1 : -2147483648 ≤ j) (h2 : j < 2147483648) : lwR lwQb d L xs 176 124 [.ref 1, .int (I j), .int (I (if b = true then 1 else 0)), .ref 284] [.ref 266, .int (I j), .int (I (if b = true then 1 else 0))] f m := by
  obtain ⟨d, rfl⟩ : ∃ e, d = e + 1 := ⟨d - 1, by omega⟩
  have h8 := CI_8 hS.2.1
  have c0 := c_mark (d := d) (m := m) (b := b) (by omega) hS.2.1 h1 h2
  by_cases q0 : 0 ≤ j ∧ j < n
  · rw [if_pos q0] at c0
    obtain ⟨f1, e1, k1, k2⟩ := c0
    exact lwR_ok (by omega) hS k2 k1 (fun o ho => wo_mark e1 h8 ho) (fun F hF => by obtain ⟨f2, a1, a2⟩ := r_mark (d := d + 1) (m := m) (b := b) (by omega) hF h1 h2; rw [if_pos q0] at a2; exact ⟨f2, a1, a2.1, a2.2⟩) (fun o f2 x3 x4 => ⟨_, o, rfl, x3, fun _ => x4⟩)
  · rw [if_neg q0] at c0
    exact lwR_x (by omega) hS fre_refl hS.2.1 (wx_mark_2 c0 h8) (Or.inl rfl) (fun F m2 hF => by obtain ⟨f2, a1, a2⟩ := r_mark (d := d + 1) (m := m2) (b := b) (by omega) hF h1 h2; rw [if_neg q0] at a2; exact ⟨f2, a1, a2.1, a2.2⟩) (fun o u f2 x3 x4 => ⟨false, o, rfl, x3, fun e => absurd e (by decide)⟩)
theorem b_setCost (hd : 200 ≤ d) (hS : lwS f L xs thr n X G P np C kp fd ft ps T) (h1 : -2147483648 ≤ j) (h2 : j < 2147483648) (h3 : -2147483648 ≤ c) (h4 : c < 2147483648) : lwR lwQi d L xs 178 126 [.ref 1, .int (I j), .int (I c), .ref 284] [.ref 266, .int (I j), .int (I c)] f m := by
  obtain ⟨d, rfl⟩ : ∃ e, d = e + 1 := ⟨d - 1, by omega⟩
  have h8 := CI_8 hS.2.1
  have c0 := c_setCost (d := d) (m := m) (by omega) hS.2.1 h1 h2 h3 h4
  by_cases q0 : 0 ≤ j ∧ j < 7
  · rw [if_pos q0] at c0
    by_cases q1 : 1 ≤ c ∧ c ≤ 9
    · rw [if_pos q1] at c0
      obtain ⟨f1, e1, k1, k2⟩ := c0
      exact lwR_ok (by omega) hS k2 k1 (fun o ho => wo_setCost e1 h8 ho) (fun F hF => by obtain ⟨f2, a1, a2⟩ := r_setCost (d := d + 1) (m := m) (by omega) hF h1 h2 h3 h4; rw [if_pos q0, if_pos q1] at a2; exact ⟨f2, a1, a2.1, a2.2⟩) (fun o f2 x3 x4 => ⟨_, o, rfl, x3, fun _ => x4.trans (J_of _)⟩)
    · rw [if_neg q1] at c0
      exact lwR_x (by omega) hS fre_refl hS.2.1 (wx_setCost_0 c0 h8) (Or.inr rfl) (fun F m2 hF => by obtain ⟨f2, a1, a2⟩ := r_setCost (d := d + 1) (m := m2) (by omega) hF h1 h2 h3 h4; rw [if_pos q0, if_neg q1] at a2; exact ⟨f2, a1, a2.1, a2.2⟩) (fun o u f2 x3 x4 => ⟨_, o, rfl, x3, fun e => absurd e (by decide)⟩)
  · rw [if_neg q0] at c0
    exact lwR_x (by omega) hS fre_refl hS.2.1 (wx_setCost_2 c0 h8) (Or.inl rfl) (fun F m2 hF => by obtain ⟨f2, a1, a2⟩ := r_setCost (d := d + 1) (m := m2) (by omega) hF h1 h2 h3 h4; rw [if_neg q0] at a2; exact ⟨f2, a1, a2.1, a2.2⟩) (fun o u f2 x3 x4 => ⟨_, o, rfl, x3, fun e => absurd e (by decide)⟩)
theorem b_example (hd : 200 ≤ d) (hS : lwS f L xs thr n X G P np C kp fd ft ps T) (h1 : -2147483648 ≤ j) (h2 : j < 2147483648) : lwR lwQl d L xs 179 128 [.ref 1, .int (I j), .ref 284] [.ref 266, .int (I j)] f m := by
  obtain ⟨d, rfl⟩ : ∃ e, d = e + 1 := ⟨d - 1, by omega⟩
  have h8 := CI_8 hS.2.1
  have c0 := c_example (d := d) (m := m) (by omega) hS.2.1 h1 h2
  by_cases q0 : 0 ≤ j ∧ j < n
  · rw [if_pos q0] at c0
    exact lwR_ok (by omega) hS fre_refl hS.2.1 (fun o ho => wo_example c0 h8 ho) (fun F hF => by obtain ⟨f2, a1, a2⟩ := r_example (d := d + 1) (m := m) (by omega) hF h1 h2; rw [if_pos q0] at a2; exact ⟨f2, a1, a2.1, a2.2⟩) (fun o f2 x3 x4 => ⟨_, o, rfl, x3, fun _ => x4.trans (J_of _)⟩)
  · rw [if_neg q0] at c0
    exact lwR_x (by omega) hS fre_refl hS.2.1 (wx_example_2 c0 h8) (Or.inl rfl) (fun F m2 hF => by obtain ⟨f2, a1, a2⟩ := r_example (d := d + 1) (m := m2) (by omega) hF h1 h2; rw [if_neg q0] at a2; exact ⟨f2, a1, a2.1, a2.2⟩) (fun o u f2 x3 x4 => ⟨_, o, rfl, x3, fun e => absurd e (by decide)⟩)
theorem b_isGood (hd : 200 ≤ d) (hS : lwS f L xs thr n X G P np C kp fd ft ps T) (h1 : -2147483648 ≤ j) (h2 : j < 2147483648) : lwR lwQb d L xs 180 129 [.ref 1, .int (I j), .ref 284] [.ref 266, .int (I j)] f m := by
  obtain ⟨d, rfl⟩ : ∃ e, d = e + 1 := ⟨d - 1, by omega⟩
  have h8 := CI_8 hS.2.1
  have c0 := c_isGood (d := d) (m := m) (by omega) hS.2.1 h1 h2
  by_cases q0 : 0 ≤ j ∧ j < n
  · rw [if_pos q0] at c0
    exact lwR_ok (by omega) hS fre_refl hS.2.1 (fun o ho => wo_isGood c0 h8 ho) (fun F hF => by obtain ⟨f2, a1, a2⟩ := r_isGood (d := d + 1) (m := m) (by omega) hF h1 h2; rw [if_pos q0] at a2; exact ⟨f2, a1, a2.1, a2.2⟩) (fun o f2 x3 x4 => ⟨_, o, rfl, x3, fun _ => x4⟩)
  · rw [if_neg q0] at c0
    exact lwR_x (by omega) hS fre_refl hS.2.1 (wx_isGood_2 c0 h8) (Or.inl rfl) (fun F m2 hF => by obtain ⟨f2, a1, a2⟩ := r_isGood (d := d + 1) (m := m2) (by omega) hF h1 h2; rw [if_neg q0] at a2; exact ⟨f2, a1, a2.1, a2.2⟩) (fun o u f2 x3 x4 => ⟨false, o, rfl, x3, fun e => absurd e (by decide)⟩)
theorem b_piece (hd : 200 ≤ d) (hS : lwS f L xs thr n X G P np C kp fd ft ps T) (h1 : -2147483648 ≤ j) (h2 : j < 2147483648) : lwR lwQl d L xs 181 131 [.ref 1, .int (I j), .ref 284] [.ref 266, .int (I j)] f m := by
  obtain ⟨d, rfl⟩ : ∃ e, d = e + 1 := ⟨d - 1, by omega⟩
  have h8 := CI_8 hS.2.1
  have c0 := c_piece (d := d) (m := m) (by omega) hS.2.1 h1 h2
  by_cases q0 : 0 ≤ j ∧ j < np
  · rw [if_pos q0] at c0
    exact lwR_ok (by omega) hS fre_refl hS.2.1 (fun o ho => wo_piece c0 h8 ho) (fun F hF => by obtain ⟨f2, a1, a2⟩ := r_piece (d := d + 1) (m := m) (by omega) hF h1 h2; rw [if_pos q0] at a2; exact ⟨f2, a1, a2.1, a2.2⟩) (fun o f2 x3 x4 => ⟨_, o, rfl, x3, fun _ => x4.trans (J_of _)⟩)
  · rw [if_neg q0] at c0
    exact lwR_x (by omega) hS fre_refl hS.2.1 (wx_piece_2 c0 h8) (Or.inl rfl) (fun F m2 hF => by obtain ⟨f2, a1, a2⟩ := r_piece (d := d + 1) (m := m2) (by omega) hF h1 h2; rw [if_neg q0] at a2; exact ⟨f2, a1, a2.1, a2.2⟩) (fun o u f2 x3 x4 => ⟨_, o, rfl, x3, fun e => absurd e (by decide)⟩)
theorem b_look (hd : 200 ≤ d) (hS : lwS f L xs thr n X G P np C kp fd ft ps T) (h1 : -2147483648 ≤ j) (h2 : j < 2147483648) : lwR lwQi d L xs 182 139 [.ref 1, .int (I j), .ref 284] [.ref 266, .int (I j)] f m := by
  obtain ⟨d, rfl⟩ : ∃ e, d = e + 1 := ⟨d - 1, by omega⟩
  have h8 := CI_8 hS.2.1
  have c0 := c_look (d := d) (m := m) (by omega) hS.2.1 h1 h2
  by_cases q0 : 1 ≤ j ∧ j ≤ 60
  · rw [if_pos q0] at c0
    obtain ⟨f1, e1, k1, k2⟩ := c0
    exact lwR_ok (by omega) hS k1 k2 (fun o ho => wo_look e1 h8 ho) (fun F hF => by obtain ⟨f2, a1, a2⟩ := r_look (d := d + 1) (m := m) (by omega) hF h1 h2; rw [if_pos q0] at a2; exact ⟨f2, a1, a2.1, a2.2⟩) (fun o f2 x3 x4 => ⟨_, o, rfl, x3, fun _ => x4.trans (J_of _)⟩)
  · rw [if_neg q0] at c0
    exact lwR_x (by omega) hS fre_refl hS.2.1 (wx_look_0 c0 h8) (Or.inl rfl) (fun F m2 hF => by obtain ⟨f2, a1, a2⟩ := r_look (d := d + 1) (m := m2) (by omega) hF h1 h2; rw [if_neg q0] at a2; exact ⟨f2, a1, a2.1, a2.2⟩) (fun o u f2 x3 x4 => ⟨_, o, rfl, x3, fun e => absurd e (by decide)⟩)
theorem b_nodeCount (hd : 200 ≤ d) (hS : lwS f L xs thr n X G P np C kp fd ft ps T) : lwR lwQi d L xs 183 146 [.ref 1, .ref 284] [.ref 266] f m := by
  obtain ⟨d, rfl⟩ : ∃ e, d = e + 1 := ⟨d - 1, by omega⟩
  have h8 := CI_8 hS.2.1
  have c0 := c_nodeCount (d := d) (m := m) (by omega) hS.2.1 
  by_cases q0 : fd = 1
  · rw [if_pos q0] at c0
    exact lwR_ok (by omega) hS fre_refl hS.2.1 (fun o ho => wo_nodeCount c0 h8 ho) (fun F hF => by obtain ⟨f2, a1, a2⟩ := r_nodeCount (d := d + 1) (m := m) (by omega) hF ; rw [if_pos q0] at a2; exact ⟨f2, a1, a2.1, a2.2⟩) (fun o f2 x3 x4 => ⟨_, o, rfl, x3, fun _ => x4.trans (J_of _)⟩)
  · rw [if_neg q0] at c0
    exact lwR_x (by omega) hS fre_refl hS.2.1 (wx_nodeCount_1 c0 h8) (Or.inl rfl) (fun F m2 hF => by obtain ⟨f2, a1, a2⟩ := r_nodeCount (d := d + 1) (m := m2) (by omega) hF ; rw [if_neg q0] at a2; exact ⟨f2, a1, a2.1, a2.2⟩) (fun o u f2 x3 x4 => ⟨_, o, rfl, x3, fun e => absurd e (by decide)⟩)
theorem b_kind (hd : 200 ≤ d) (hS : lwS f L xs thr n X G P np C kp fd ft ps T) (h1 : -2147483648 ≤ j) (h2 : j < 2147483648) : lwR lwQi d L xs 184 147 [.ref 1, .int (I j), .ref 284] [.ref 266, .int (I j)] f m := by
  obtain ⟨d, rfl⟩ : ∃ e, d = e + 1 := ⟨d - 1, by omega⟩
  have h8 := CI_8 hS.2.1
  have c0 := c_kind (d := d) (m := m) (by omega) hS.2.1 h1 h2
  by_cases q0 : fd = 1
  · rw [if_pos q0] at c0
    by_cases q1 : 0 ≤ j ∧ j < (sz ft : Nat)
    · rw [if_pos q1] at c0
      exact lwR_ok (by omega) hS fre_refl hS.2.1 (fun o ho => wo_kind c0 h8 ho) (fun F hF => by obtain ⟨f2, a1, a2⟩ := r_kind (d := d + 1) (m := m) (by omega) hF h1 h2; rw [if_pos q0, if_pos q1] at a2; exact ⟨f2, a1, a2.1, a2.2⟩) (fun o f2 x3 x4 => ⟨_, o, rfl, x3, fun _ => x4.trans (J_of _)⟩)
    · rw [if_neg q1] at c0
      exact lwR_x (by omega) hS fre_refl hS.2.1 (wx_kind_2 c0 h8) (Or.inr rfl) (fun F m2 hF => by obtain ⟨f2, a1, a2⟩ := r_kind (d := d + 1) (m := m2) (by omega) hF h1 h2; rw [if_pos q0, if_neg q1] at a2; exact ⟨f2, a1, a2.1, a2.2⟩) (fun o u f2 x3 x4 => ⟨_, o, rfl, x3, fun e => absurd e (by decide)⟩)
  · rw [if_neg q0] at c0
    exact lwR_x (by omega) hS fre_refl hS.2.1 (wx_kind_1 c0 h8) (Or.inl rfl) (fun F m2 hF => by obtain ⟨f2, a1, a2⟩ := r_kind (d := d + 1) (m := m2) (by omega) hF h1 h2; rw [if_neg q0] at a2; exact ⟨f2, a1, a2.1, a2.2⟩) (fun o u f2 x3 x4 => ⟨_, o, rfl, x3, fun e => absurd e (by decide)⟩)
theorem b_part (hd : 200 ≤ d) (hS : lwS f L xs thr n X G P np C kp fd ft ps T) (h1 : -2147483648 ≤ j) (h2 : j < 2147483648) : lwR lwQi d L xs 185 148 [.ref 1, .int (I j), .int (I (if b = true then 1 else 0)), .ref 284] [.ref 266, .int (I j), .int (I (if b = true then 1 else 0))] f m := by
  obtain ⟨d, rfl⟩ : ∃ e, d = e + 1 := ⟨d - 1, by omega⟩
  have h8 := CI_8 hS.2.1
  have c0 := c_part (d := d) (m := m) (b := b) (by omega) hS.2.1 h1 h2
  by_cases q0 : fd = 1
  · rw [if_pos q0] at c0
    by_cases q1 : 0 ≤ j ∧ j < (sz ft : Nat)
    · rw [if_pos q1] at c0
      exact lwR_ok (by omega) hS fre_refl hS.2.1 (fun o ho => wo_part c0 h8 ho) (fun F hF => by obtain ⟨f2, a1, a2⟩ := r_part (d := d + 1) (m := m) (b := b) (by omega) hF h1 h2; rw [if_pos q0, if_pos q1] at a2; exact ⟨f2, a1, a2.1, a2.2⟩) (fun o f2 x3 x4 => ⟨_, o, rfl, x3, fun _ => x4.trans (J_of _)⟩)
    · rw [if_neg q1] at c0
      exact lwR_x (by omega) hS fre_refl hS.2.1 (wx_part_2 c0 h8) (Or.inr rfl) (fun F m2 hF => by obtain ⟨f2, a1, a2⟩ := r_part (d := d + 1) (m := m2) (b := b) (by omega) hF h1 h2; rw [if_pos q0, if_neg q1] at a2; exact ⟨f2, a1, a2.1, a2.2⟩) (fun o u f2 x3 x4 => ⟨_, o, rfl, x3, fun e => absurd e (by decide)⟩)
  · rw [if_neg q0] at c0
    exact lwR_x (by omega) hS fre_refl hS.2.1 (wx_part_1 c0 h8) (Or.inl rfl) (fun F m2 hF => by obtain ⟨f2, a1, a2⟩ := r_part (d := d + 1) (m := m2) (b := b) (by omega) hF h1 h2; rw [if_neg q0] at a2; exact ⟨f2, a1, a2.1, a2.2⟩) (fun o u f2 x3 x4 => ⟨_, o, rfl, x3, fun e => absurd e (by decide)⟩)
theorem b_textSize (hd : 200 ≤ d) (hS : lwS f L xs thr n X G P np C kp fd ft ps T) : lwR lwQi d L xs 186 152 [.ref 1, .ref 284] [.ref 266] f m := by
  obtain ⟨d, rfl⟩ : ∃ e, d = e + 1 := ⟨d - 1, by omega⟩
  have h8 := CI_8 hS.2.1
  have c0 := c_textSize (d := d) (m := m) (by omega) hS.2.1 
  by_cases q0 : fd = 1
  · rw [if_pos q0] at c0
    exact lwR_ok (by omega) hS fre_refl hS.2.1 (fun o ho => wo_textSize c0 h8 ho) (fun F hF => by obtain ⟨f2, a1, a2⟩ := r_textSize (d := d + 1) (m := m) (by omega) hF ; rw [if_pos q0] at a2; exact ⟨f2, a1, a2.1, a2.2⟩) (fun o f2 x3 x4 => ⟨_, o, rfl, x3, fun _ => x4.trans (J_of _)⟩)
  · rw [if_neg q0] at c0
    exact lwR_x (by omega) hS fre_refl hS.2.1 (wx_textSize_1 c0 h8) (Or.inl rfl) (fun F m2 hF => by obtain ⟨f2, a1, a2⟩ := r_textSize (d := d + 1) (m := m2) (by omega) hF ; rw [if_neg q0] at a2; exact ⟨f2, a1, a2.1, a2.2⟩) (fun o u f2 x3 x4 => ⟨_, o, rfl, x3, fun e => absurd e (by decide)⟩)
theorem b_text (hd : 200 ≤ d) (hS : lwS f L xs thr n X G P np C kp fd ft ps T) (h1 : -2147483648 ≤ j) (h2 : j < 2147483648) : lwR lwQi d L xs 187 153 [.ref 1, .int (I j), .ref 284] [.ref 266, .int (I j)] f m := by
  obtain ⟨d, rfl⟩ : ∃ e, d = e + 1 := ⟨d - 1, by omega⟩
  have h8 := CI_8 hS.2.1
  have c0 := c_text (d := d) (m := m) (by omega) hS.2.1 h1 h2
  by_cases q0 : fd = 1
  · rw [if_pos q0] at c0
    by_cases q1 : 0 ≤ j ∧ j < (tx ft).length
    · rw [if_pos q1] at c0
      exact lwR_ok (by omega) hS fre_refl hS.2.1 (fun o ho => wo_text c0 h8 ho) (fun F hF => by obtain ⟨f2, a1, a2⟩ := r_text (d := d + 1) (m := m) (by omega) hF h1 h2; rw [if_pos q0, if_pos q1] at a2; exact ⟨f2, a1, a2.1, a2.2⟩) (fun o f2 x3 x4 => ⟨_, o, rfl, x3, fun _ => x4.trans (J_of _)⟩)
    · rw [if_neg q1] at c0
      exact lwR_x (by omega) hS fre_refl hS.2.1 (wx_text_2 c0 h8) (Or.inr rfl) (fun F m2 hF => by obtain ⟨f2, a1, a2⟩ := r_text (d := d + 1) (m := m2) (by omega) hF h1 h2; rw [if_pos q0, if_neg q1] at a2; exact ⟨f2, a1, a2.1, a2.2⟩) (fun o u f2 x3 x4 => ⟨_, o, rfl, x3, fun e => absurd e (by decide)⟩)
  · rw [if_neg q0] at c0
    exact lwR_x (by omega) hS fre_refl hS.2.1 (wx_text_1 c0 h8) (Or.inl rfl) (fun F m2 hF => by obtain ⟨f2, a1, a2⟩ := r_text (d := d + 1) (m := m2) (by omega) hF h1 h2; rw [if_neg q0] at a2; exact ⟨f2, a1, a2.1, a2.2⟩) (fun o u f2 x3 x4 => ⟨_, o, rfl, x3, fun e => absurd e (by decide)⟩)
theorem b_matches (hd : 200 ≤ d) (hS : lwS f L xs thr n X G P np C kp fd ft ps T) (hN : N < 18446744073709551616) : lwR lwQb d L xs 188 158 [.ref 1, .long (J (N : Int)), .ref 284] [.ref 266, .long (J (N : Int))] f m := by
  obtain ⟨d, rfl⟩ : ∃ e, d = e + 1 := ⟨d - 1, by omega⟩
  have h8 := CI_8 hS.2.1
  have c0 := c_matches (d := d) (m := m) (by omega) hS.2.1 hN
  by_cases q0 : fd = 1
  · rw [if_pos q0] at c0
    by_cases q1 : wgood (wl N 8) ∧ (wl N 8).length ≤ 6
    · rw [if_pos q1] at c0
      obtain ⟨f1, e1, k1, k2⟩ := c0
      exact lwR_ok (by omega) hS k1 k2 (fun o ho => wo_matches e1 h8 ho) (fun F hF => by obtain ⟨f2, a1, a2⟩ := r_matches (d := d + 1) (m := m) (by omega) hF hN; rw [if_pos q0, if_pos q1] at a2; exact ⟨f2, a1, a2.1, a2.2⟩) (fun o f2 x3 x4 => ⟨_, o, rfl, x3, fun _ => x4⟩)
    · rw [if_neg q1] at c0
      exact lwR_x (by omega) hS fre_refl hS.2.1 (wx_matches_0 c0 h8) (Or.inr rfl) (fun F m2 hF => by obtain ⟨f2, a1, a2⟩ := r_matches (d := d + 1) (m := m2) (by omega) hF hN; rw [if_pos q0, if_neg q1] at a2; exact ⟨f2, a1, a2.1, a2.2⟩) (fun o u f2 x3 x4 => ⟨false, o, rfl, x3, fun e => absurd e (by decide)⟩)
  · rw [if_neg q0] at c0
    exact lwR_x (by omega) hS fre_refl hS.2.1 (wx_matches_1 c0 h8) (Or.inl rfl) (fun F m2 hF => by obtain ⟨f2, a1, a2⟩ := r_matches (d := d + 1) (m := m2) (by omega) hF hN; rw [if_neg q0] at a2; exact ⟨f2, a1, a2.1, a2.2⟩) (fun o u f2 x3 x4 => ⟨false, o, rfl, x3, fun e => absurd e (by decide)⟩)
theorem b_count (hd : 200 ≤ d) (hS : lwS f L xs thr n X G P np C kp fd ft ps T) (h1 : -2147483648 ≤ j) (h2 : j < 2147483648) : lwR lwQi d L xs 189 160 [.ref 1, .int (I j), .ref 284] [.ref 266, .int (I j)] f m := by
  obtain ⟨d, rfl⟩ : ∃ e, d = e + 1 := ⟨d - 1, by omega⟩
  have h8 := CI_8 hS.2.1
  have c0 := c_count (d := d) (m := m) (by omega) hS.2.1 h1 h2
  by_cases q0 : fd = 1
  · rw [if_pos q0] at c0
    by_cases q1 : 0 ≤ j ∧ j ≤ 6
    · rw [if_pos q1] at c0
      obtain ⟨f1, e1, k1, k2⟩ := c0
      exact lwR_ok (by omega) hS k1 k2 (fun o ho => wo_count e1 h8 ho) (fun F hF => by obtain ⟨f2, a1, a2⟩ := r_count (d := d + 1) (m := m) (by omega) hF h1 h2; rw [if_pos q0, if_pos q1] at a2; exact ⟨f2, a1, a2.1, a2.2⟩) (fun o f2 x3 x4 => ⟨_, o, rfl, x3, fun _ => x4.trans (J_of _)⟩)
    · rw [if_neg q1] at c0
      exact lwR_x (by omega) hS fre_refl hS.2.1 (wx_count_0 c0 h8) (Or.inr rfl) (fun F m2 hF => by obtain ⟨f2, a1, a2⟩ := r_count (d := d + 1) (m := m2) (by omega) hF h1 h2; rw [if_pos q0, if_neg q1] at a2; exact ⟨f2, a1, a2.1, a2.2⟩) (fun o u f2 x3 x4 => ⟨_, o, rfl, x3, fun e => absurd e (by decide)⟩)
  · rw [if_neg q0] at c0
    exact lwR_x (by omega) hS fre_refl hS.2.1 (wx_count_1 c0 h8) (Or.inl rfl) (fun F m2 hF => by obtain ⟨f2, a1, a2⟩ := r_count (d := d + 1) (m := m2) (by omega) hF h1 h2; rw [if_neg q0] at a2; exact ⟨f2, a1, a2.1, a2.2⟩) (fun o u f2 x3 x4 => ⟨_, o, rfl, x3, fun e => absurd e (by decide)⟩)
theorem b_first (hd : 200 ≤ d) (hS : lwS f L xs thr n X G P np C kp fd ft ps T) : lwR lwQl d L xs 190 161 [.ref 1, .ref 284] [.ref 266] f m := by
  obtain ⟨d, rfl⟩ : ∃ e, d = e + 1 := ⟨d - 1, by omega⟩
  have h8 := CI_8 hS.2.1
  have c0 := c_first (d := d) (m := m) (by omega) hS.2.1 
  by_cases q0 : fd = 1
  · rw [if_pos q0] at c0
    obtain ⟨f1, e1, k1, k2⟩ := c0
    exact lwR_ok (by omega) hS k1 k2 (fun o ho => wo_first e1 h8 ho) (fun F hF => by obtain ⟨f2, a1, a2⟩ := r_first (d := d + 1) (m := m) (by omega) hF ; rw [if_pos q0] at a2; exact ⟨f2, a1, a2.1, a2.2⟩) (fun o f2 x3 x4 => ⟨_, o, rfl, x3, fun _ => x4.trans (J_of _)⟩)
  · rw [if_neg q0] at c0
    exact lwR_x (by omega) hS fre_refl hS.2.1 (wx_first_1 c0 h8) (Or.inl rfl) (fun F m2 hF => by obtain ⟨f2, a1, a2⟩ := r_first (d := d + 1) (m := m2) (by omega) hF ; rw [if_neg q0] at a2; exact ⟨f2, a1, a2.1, a2.2⟩) (fun o u f2 x3 x4 => ⟨_, o, rfl, x3, fun e => absurd e (by decide)⟩)
theorem b_share (hd : 200 ≤ d) (hS : lwS f L xs thr n X G P np C kp fd ft ps T) : lwR lwQd d L xs 191 162 [.ref 1, .ref 285] [.ref 266] f m := by
  obtain ⟨d, rfl⟩ : ∃ e, d = e + 1 := ⟨d - 1, by omega⟩
  have h8 := CI_8 hS.2.1
  have c0 := c_share (d := d) (m := m) (by omega) hS.2.1 
  by_cases q0 : fd = 1
  · rw [if_pos q0] at c0
    exact lwR_okd (by omega) hS fre_refl hS.2.1 (fun o ho => wo_share c0 h8 ho) (fun F hF => by obtain ⟨f2, a1, a2⟩ := r_share (d := d + 1) (m := m) (by omega) hF ; rw [if_pos q0] at a2; exact ⟨f2, a1, a2.1, a2.2⟩) (fun u f2 x3 x4 => ⟨_, u, rfl, x3, fun _ => x4⟩)
  · rw [if_neg q0] at c0
    exact lwR_x (by omega) hS fre_refl hS.2.1 (wx_share_1 c0 h8) (Or.inl rfl) (fun F m2 hF => by obtain ⟨f2, a1, a2⟩ := r_share (d := d + 1) (m := m2) (by omega) hF ; rw [if_neg q0] at a2; exact ⟨f2, a1, a2.1, a2.2⟩) (fun o u f2 x3 x4 => ⟨_, u, rfl, x4, fun e => absurd e (by decide)⟩)
theorem b_push (hd : 200 ≤ d) (hS : lwS f L xs thr n X G P np C kp fd ft ps T) (h1 : -2147483648 ≤ j) (h2 : j < 2147483648) (h3 : -2147483648 ≤ l) (h4 : l < 2147483648) : lwR lwQi d L xs 192 163 [.ref 1, .int (I j), .int (I l), .ref 284] [.ref 266, .int (I j), .int (I l)] f m := by
  obtain ⟨d, rfl⟩ : ∃ e, d = e + 1 := ⟨d - 1, by omega⟩
  have h8 := CI_8 hS.2.1
  have c0 := c_push (d := d) (m := m) (by omega) hS.2.1 h1 h2 h3 h4
  by_cases q0 : (0 ≤ j ∧ j ≤ 2) ∧ (j = 2 → 97 ≤ l ∧ l ≤ 99)
  · rw [if_pos q0] at c0
    by_cases q1 : ps < 12
    · rw [if_pos q1] at c0
      obtain ⟨f1, e1, k1, k2⟩ := c0
      exact lwR_ok (by omega) hS k1 k2 (fun o ho => wo_push e1 h8 ho) (fun F hF => by obtain ⟨f2, a1, a2⟩ := r_push (d := d + 1) (m := m) (by omega) hF h1 h2 h3 h4; rw [if_pos q0, if_pos q1] at a2; exact ⟨f2, a1, a2.1, a2.2⟩) (fun o f2 x3 x4 => ⟨_, o, rfl, x3, fun _ => x4.trans (J_of _)⟩)
    · rw [if_neg q1] at c0
      exact lwR_x (by omega) hS fre_refl hS.2.1 (wx_push_1 c0 h8) (Or.inr rfl) (fun F m2 hF => by obtain ⟨f2, a1, a2⟩ := r_push (d := d + 1) (m := m2) (by omega) hF h1 h2 h3 h4; rw [if_pos q0, if_neg q1] at a2; exact ⟨f2, a1, a2.1, a2.2⟩) (fun o u f2 x3 x4 => ⟨_, o, rfl, x3, fun e => absurd e (by decide)⟩)
  · rw [if_neg q0] at c0
    exact lwR_x (by omega) hS fre_refl hS.2.1 (wx_push_0 c0 h8) (Or.inl rfl) (fun F m2 hF => by obtain ⟨f2, a1, a2⟩ := r_push (d := d + 1) (m := m2) (by omega) hF h1 h2 h3 h4; rw [if_neg q0] at a2; exact ⟨f2, a1, a2.1, a2.2⟩) (fun o u f2 x3 x4 => ⟨_, o, rfl, x3, fun e => absurd e (by decide)⟩)
theorem b_wrap (hd : 200 ≤ d) (hS : lwS f L xs thr n X G P np C kp fd ft ps T) (h1 : -2147483648 ≤ j) (h2 : j < 2147483648) : lwR lwQi d L xs 193 165 [.ref 1, .int (I j), .ref 284] [.ref 266, .int (I j)] f m := by
  obtain ⟨d, rfl⟩ : ∃ e, d = e + 1 := ⟨d - 1, by omega⟩
  have h8 := CI_8 hS.2.1
  have c0 := c_wrap (d := d) (m := m) (by omega) hS.2.1 h1 h2
  by_cases q0 : j = 3 ∨ j = 4
  · rw [if_pos q0] at c0
    by_cases q1 : 1 ≤ ps ∧ sz (T (ps - 1)) < 60
    · rw [if_pos q1] at c0
      obtain ⟨f1, e1, k1, k2⟩ := c0
      exact lwR_ok (by omega) hS k1 k2 (fun o ho => wo_wrap e1 h8 ho) (fun F hF => by obtain ⟨f2, a1, a2⟩ := r_wrap (d := d + 1) (m := m) (by omega) hF h1 h2; rw [if_pos q0, if_pos q1] at a2; exact ⟨f2, a1, a2.1, a2.2⟩) (fun o f2 x3 x4 => ⟨_, o, rfl, x3, fun _ => x4.trans (J_of _)⟩)
    · rw [if_neg q1] at c0
      exact lwR_x (by omega) hS fre_refl hS.2.1 (wx_wrap_1 c0 h8) (Or.inr rfl) (fun F m2 hF => by obtain ⟨f2, a1, a2⟩ := r_wrap (d := d + 1) (m := m2) (by omega) hF h1 h2; rw [if_pos q0, if_neg q1] at a2; exact ⟨f2, a1, a2.1, a2.2⟩) (fun o u f2 x3 x4 => ⟨_, o, rfl, x3, fun e => absurd e (by decide)⟩)
  · rw [if_neg q0] at c0
    exact lwR_x (by omega) hS fre_refl hS.2.1 (wx_wrap_0 c0 h8) (Or.inl rfl) (fun F m2 hF => by obtain ⟨f2, a1, a2⟩ := r_wrap (d := d + 1) (m := m2) (by omega) hF h1 h2; rw [if_neg q0] at a2; exact ⟨f2, a1, a2.1, a2.2⟩) (fun o u f2 x3 x4 => ⟨_, o, rfl, x3, fun e => absurd e (by decide)⟩)
theorem b_join (hd : 200 ≤ d) (hS : lwS f L xs thr n X G P np C kp fd ft ps T) (h1 : -2147483648 ≤ j) (h2 : j < 2147483648) : lwR lwQi d L xs 194 166 [.ref 1, .int (I j), .ref 284] [.ref 266, .int (I j)] f m := by
  obtain ⟨d, rfl⟩ : ∃ e, d = e + 1 := ⟨d - 1, by omega⟩
  have h8 := CI_8 hS.2.1
  have c0 := c_join (d := d) (m := m) (by omega) hS.2.1 h1 h2
  by_cases q0 : j = 5 ∨ j = 6
  · rw [if_pos q0] at c0
    by_cases q1 : 2 ≤ ps ∧ sz (T (ps - 2)) + sz (T (ps - 1)) < 60
    · rw [if_pos q1] at c0
      obtain ⟨f1, e1, k1, k2⟩ := c0
      exact lwR_ok (by omega) hS k1 k2 (fun o ho => wo_join e1 h8 ho) (fun F hF => by obtain ⟨f2, a1, a2⟩ := r_join (d := d + 1) (m := m) (by omega) hF h1 h2; rw [if_pos q0, if_pos q1] at a2; exact ⟨f2, a1, a2.1, a2.2⟩) (fun o f2 x3 x4 => ⟨_, o, rfl, x3, fun _ => x4.trans (J_of _)⟩)
    · rw [if_neg q1] at c0
      exact lwR_x (by omega) hS fre_refl hS.2.1 (wx_join_1 c0 h8) (Or.inr rfl) (fun F m2 hF => by obtain ⟨f2, a1, a2⟩ := r_join (d := d + 1) (m := m2) (by omega) hF h1 h2; rw [if_pos q0, if_neg q1] at a2; exact ⟨f2, a1, a2.1, a2.2⟩) (fun o u f2 x3 x4 => ⟨_, o, rfl, x3, fun e => absurd e (by decide)⟩)
  · rw [if_neg q0] at c0
    exact lwR_x (by omega) hS fre_refl hS.2.1 (wx_join_0 c0 h8) (Or.inl rfl) (fun F m2 hF => by obtain ⟨f2, a1, a2⟩ := r_join (d := d + 1) (m := m2) (by omega) hF h1 h2; rw [if_neg q0] at a2; exact ⟨f2, a1, a2.1, a2.2⟩) (fun o u f2 x3 x4 => ⟨_, o, rfl, x3, fun e => absurd e (by decide)⟩)
theorem b_take (hd : 200 ≤ d) (hS : lwS f L xs thr n X G P np C kp fd ft ps T) : lwR lwQi d L xs 195 167 [.ref 1, .ref 284] [.ref 266] f m := by
  obtain ⟨d, rfl⟩ : ∃ e, d = e + 1 := ⟨d - 1, by omega⟩
  have h8 := CI_8 hS.2.1
  have c0 := c_take (d := d) (m := m) (by omega) hS.2.1 
  by_cases q0 : fd = 1
  · rw [if_pos q0] at c0
    by_cases q1 : ps < 12
    · rw [if_pos q1] at c0
      obtain ⟨f1, e1, k1, k2⟩ := c0
      exact lwR_ok (by omega) hS k1 k2 (fun o ho => wo_take e1 h8 ho) (fun F hF => by obtain ⟨f2, a1, a2⟩ := r_take (d := d + 1) (m := m) (by omega) hF ; rw [if_pos q0, if_pos q1] at a2; exact ⟨f2, a1, a2.1, a2.2⟩) (fun o f2 x3 x4 => ⟨_, o, rfl, x3, fun _ => x4.trans (J_of _)⟩)
    · rw [if_neg q1] at c0
      exact lwR_x (by omega) hS fre_refl hS.2.1 (wx_take_1 c0 h8) (Or.inl rfl) (fun F m2 hF => by obtain ⟨f2, a1, a2⟩ := r_take (d := d + 1) (m := m2) (by omega) hF ; rw [if_pos q0, if_neg q1] at a2; exact ⟨f2, a1, a2.1, a2.2⟩) (fun o u f2 x3 x4 => ⟨_, o, rfl, x3, fun e => absurd e (by decide)⟩)
  · rw [if_neg q0] at c0
    exact lwR_x (by omega) hS fre_refl hS.2.1 (wx_take_1 c0 h8) (Or.inl rfl) (fun F m2 hF => by obtain ⟨f2, a1, a2⟩ := r_take (d := d + 1) (m := m2) (by omega) hF ; rw [if_neg q0] at a2; exact ⟨f2, a1, a2.1, a2.2⟩) (fun o u f2 x3 x4 => ⟨_, o, rfl, x3, fun e => absurd e (by decide)⟩)
theorem b_pop (hd : 200 ≤ d) (hS : lwS f L xs thr n X G P np C kp fd ft ps T) : lwR lwQi d L xs 196 168 [.ref 1, .ref 284] [.ref 266] f m := by
  obtain ⟨d, rfl⟩ : ∃ e, d = e + 1 := ⟨d - 1, by omega⟩
  have h8 := CI_8 hS.2.1
  have c0 := c_pop (d := d) (m := m) (by omega) hS.2.1 
  by_cases q0 : 1 ≤ ps
  · rw [if_pos q0] at c0
    obtain ⟨f1, e1, k1, k2⟩ := c0
    exact lwR_ok (by omega) hS k1 k2 (fun o ho => wo_pop e1 h8 ho) (fun F hF => by obtain ⟨f2, a1, a2⟩ := r_pop (d := d + 1) (m := m) (by omega) hF ; rw [if_pos q0] at a2; exact ⟨f2, a1, a2.1, a2.2⟩) (fun o f2 x3 x4 => ⟨_, o, rfl, x3, fun _ => x4.trans (J_of _)⟩)
  · rw [if_neg q0] at c0
    exact lwR_x (by omega) hS fre_refl hS.2.1 (wx_pop_1 c0 h8) (Or.inl rfl) (fun F m2 hF => by obtain ⟨f2, a1, a2⟩ := r_pop (d := d + 1) (m := m2) (by omega) hF ; rw [if_neg q0] at a2; exact ⟨f2, a1, a2.1, a2.2⟩) (fun o u f2 x3 x4 => ⟨_, o, rfl, x3, fun e => absurd e (by decide)⟩)
theorem b_topCost (hd : 200 ≤ d) (hS : lwS f L xs thr n X G P np C kp fd ft ps T) : lwR lwQi d L xs 197 170 [.ref 1, .ref 284] [.ref 266] f m := by
  obtain ⟨d, rfl⟩ : ∃ e, d = e + 1 := ⟨d - 1, by omega⟩
  have h8 := CI_8 hS.2.1
  have c0 := c_topCost (d := d) (m := m) (by omega) hS.2.1 
  by_cases q0 : 1 ≤ ps
  · rw [if_pos q0] at c0
    exact lwR_ok (by omega) hS fre_refl hS.2.1 (fun o ho => wo_topCost c0 h8 ho) (fun F hF => by obtain ⟨f2, a1, a2⟩ := r_topCost (d := d + 1) (m := m) (by omega) hF ; rw [if_pos q0] at a2; exact ⟨f2, a1, a2.1, a2.2⟩) (fun o f2 x3 x4 => ⟨_, o, rfl, x3, fun _ => x4.trans (J_of _)⟩)
  · rw [if_neg q0] at c0
    exact lwR_x (by omega) hS fre_refl hS.2.1 (wx_topCost_1 c0 h8) (Or.inl rfl) (fun F m2 hF => by obtain ⟨f2, a1, a2⟩ := r_topCost (d := d + 1) (m := m2) (by omega) hF ; rw [if_neg q0] at a2; exact ⟨f2, a1, a2.1, a2.2⟩) (fun o u f2 x3 x4 => ⟨_, o, rfl, x3, fun e => absurd e (by decide)⟩)
theorem b_topMatches (hd : 200 ≤ d) (hS : lwS f L xs thr n X G P np C kp fd ft ps T) (hN : N < 18446744073709551616) : lwR lwQb d L xs 198 171 [.ref 1, .long (J (N : Int)), .ref 284] [.ref 266, .long (J (N : Int))] f m := by
  obtain ⟨d, rfl⟩ : ∃ e, d = e + 1 := ⟨d - 1, by omega⟩
  have h8 := CI_8 hS.2.1
  have c0 := c_topMatches (d := d) (m := m) (by omega) hS.2.1 hN
  by_cases q0 : 1 ≤ ps
  · rw [if_pos q0] at c0
    by_cases q1 : wgood (wl N 8) ∧ (wl N 8).length ≤ 6
    · rw [if_pos q1] at c0
      obtain ⟨f1, e1, k1, k2⟩ := c0
      exact lwR_ok (by omega) hS k1 k2 (fun o ho => wo_topMatches e1 h8 ho) (fun F hF => by obtain ⟨f2, a1, a2⟩ := r_topMatches (d := d + 1) (m := m) (by omega) hF hN; rw [if_pos q0, if_pos q1] at a2; exact ⟨f2, a1, a2.1, a2.2⟩) (fun o f2 x3 x4 => ⟨_, o, rfl, x3, fun _ => x4⟩)
    · rw [if_neg q1] at c0
      exact lwR_x (by omega) hS fre_refl hS.2.1 (wx_topMatches_0 c0 h8) (Or.inr rfl) (fun F m2 hF => by obtain ⟨f2, a1, a2⟩ := r_topMatches (d := d + 1) (m := m2) (by omega) hF hN; rw [if_pos q0, if_neg q1] at a2; exact ⟨f2, a1, a2.1, a2.2⟩) (fun o u f2 x3 x4 => ⟨false, o, rfl, x3, fun e => absurd e (by decide)⟩)
  · rw [if_neg q0] at c0
    exact lwR_x (by omega) hS fre_refl hS.2.1 (wx_topMatches_1 c0 h8) (Or.inl rfl) (fun F m2 hF => by obtain ⟨f2, a1, a2⟩ := r_topMatches (d := d + 1) (m := m2) (by omega) hF hN; rw [if_neg q0] at a2; exact ⟨f2, a1, a2.1, a2.2⟩) (fun o u f2 x3 x4 => ⟨false, o, rfl, x3, fun e => absurd e (by decide)⟩)
theorem b_topWrong (hd : 200 ≤ d) (hS : lwS f L xs thr n X G P np C kp fd ft ps T) : lwR lwQi d L xs 199 172 [.ref 1, .ref 284] [.ref 266] f m := by
  obtain ⟨d, rfl⟩ : ∃ e, d = e + 1 := ⟨d - 1, by omega⟩
  have h8 := CI_8 hS.2.1
  have c0 := c_topWrong (d := d) (m := m) (by omega) hS.2.1 
  by_cases q0 : 1 ≤ ps
  · rw [if_pos q0] at c0
    obtain ⟨f1, e1, k1, k2⟩ := c0
    exact lwR_ok (by omega) hS k1 k2 (fun o ho => wo_topWrong e1 h8 ho) (fun F hF => by obtain ⟨f2, a1, a2⟩ := r_topWrong (d := d + 1) (m := m) (by omega) hF ; rw [if_pos q0] at a2; exact ⟨f2, a1, a2.1, a2.2⟩) (fun o f2 x3 x4 => ⟨_, o, rfl, x3, fun _ => x4.trans (J_of _)⟩)
  · rw [if_neg q0] at c0
    exact lwR_x (by omega) hS fre_refl hS.2.1 (wx_topWrong_1 c0 h8) (Or.inl rfl) (fun F m2 hF => by obtain ⟨f2, a1, a2⟩ := r_topWrong (d := d + 1) (m := m2) (by omega) hF ; rw [if_neg q0] at a2; exact ⟨f2, a1, a2.1, a2.2⟩) (fun o u f2 x3 x4 => ⟨_, o, rfl, x3, fun e => absurd e (by decide)⟩)
theorem b_add (hd : 200 ≤ d) (hS : lwS f L xs thr n X G P np C kp fd ft ps T) (hN : N < 18446744073709551616) : lwR lwQi d L xs 175 123 [.ref 1, .long (J (N : Int)), .int (I (if b = true then 1 else 0)), .ref 284] [.ref 266, .long (J (N : Int)), .int (I (if b = true then 1 else 0))] f m := by
  obtain ⟨d, rfl⟩ : ∃ e, d = e + 1 := ⟨d - 1, by omega⟩
  have h8 := CI_8 hS.2.1
  rcases c_add (d := d) (m := m) (b := b) (by omega) hS.2.1 hN with ⟨hw, c0⟩ | ⟨hw, f1, k1, ⟨c0, k2, hre⟩ | ⟨c0, hn, hno, P', np', k2⟩⟩
  · exact lwR_x (by omega) hS fre_refl hS.2.1 (wx_add_0 c0 h8) (Or.inl rfl) (fun F m2 hF => r_add0 (d := d + 1) (m := m2) (by omega) hF hN hw) (fun o u f2 x3 x4 => ⟨_, o, rfl, x3, fun e => absurd e (by decide)⟩)
  · exact lwR_x (by omega) hS k1 k2 (wx_add_1 c0 h8) (Or.inr rfl) (fun F m2 hF => r_add1 (d := d + 1) (m := m2) (by omega) hF hN rfl hw hre) (fun o u f2 x3 x4 => ⟨_, o, rfl, x3, fun e => absurd e (by decide)⟩)
  · exact lwR_ok (by omega) hS k1 k2 (fun o ho => wo_add c0 h8 ho) (fun F hF => r_add2 (d := d + 1) (m := m) (by omega) hF hN rfl hw hn hno k2.2.2.1 (EX_np k2.2.1).1) (fun o f2 x3 x4 => ⟨_, o, rfl, x3, fun _ => x4.trans (J_of _)⟩)
theorem b_drop (hd : 200 ≤ d) (hS : lwS f L xs thr n X G P np C kp fd ft ps T) : lwR lwQi d L xs 177 125 [.ref 1, .ref 284] [.ref 266] f m := by
  obtain ⟨d, rfl⟩ : ∃ e, d = e + 1 := ⟨d - 1, by omega⟩
  have h8 := CI_8 hS.2.1
  rcases c_drop (d := d) (m := m) (by omega) hS.2.1 with ⟨rfl, c0⟩ | ⟨n', f1, P', np', rfl, c0, k2, k1⟩
  · exact lwR_x (by omega) hS fre_refl hS.2.1 (wx_drop_1 c0 h8) (Or.inl rfl) (fun F m2 hF => by obtain ⟨f2, a1, a2⟩ := r_drop (d := d + 1) (m := m2) (by omega) hF; rw [if_neg (by omega)] at a2; exact ⟨f2, a1, a2.1, a2.2⟩) (fun o u f2 x3 x4 => ⟨_, o, rfl, x3, fun e => absurd e (by decide)⟩)
  · exact lwR_ok (by omega) hS k1 k2 (fun o ho => wo_drop c0 h8 ho) (fun F hF => by obtain ⟨f2, a1, a2⟩ := r_drop (d := d + 1) (m := m) (by omega) hF; rw [if_pos (by omega)] at a2; obtain ⟨a3, a4⟩ := a2 P' np' k2.2.2.1 (EX_np k2.2.1).1; exact ⟨f2, a1, a3, a4⟩) (fun o f2 x3 x4 => ⟨_, o, rfl, x3, fun _ => x4.trans (J_of _)⟩)
/-- two calls that never throw -/
def lwD (d L : Nat) (xs : Nat → Int32) (M1 M2 : Nat) (rv : Value) (f : zF) (m : zM) : Prop := zisc (f 1) 8 = true ∧ zisc (f 266) 9 = true ∧ zrun zTb d M1 [.ref 1] f m = some (.inl (some rv), f, m) ∧ ∃ f2, zrun zTb d M2 [.ref 266] f m = some (.inl (some rv), f2, m) ∧ lwX f2 L xs
theorem lwD_mk {M1 M2 : Nat} {rv : Value} (hS : lwS f L xs thr n X G P np C kp fd ft ps T) (e1 : zrun zTb d M1 [.ref 1] f m = some (.inl (some rv), f, m)) (h : ∃ f2 : zF, (∀ i, i < 266 ∨ 283 < i → f2 i = f i) ∧ zrun zTb d M2 [.ref 266] f m = some (.inl (some rv), f2, m) ∧ RI f2 0 n X G P np C kp fd ft ps T) : lwD d L xs M1 M2 rv f m := by
  obtain ⟨f2, a1, a2, a3⟩ := h
  obtain ⟨h0, hCI, hRI, ⟨o, ho⟩, u, hu⟩ := hS
  exact ⟨CI_8 hCI, RI_9 hRI, e1, f2, a2, 0, n, X, G, P, np, C, kp, fd, ft, ps, T, (a1 0 (by omega)).trans h0, CI_fre a1 hCI, a3, ⟨o, (a1 284 (by omega)).trans ho⟩, u, (a1 285 (by omega)).trans hu⟩
theorem b_exampleCount (hd : 200 ≤ d) (hS : lwS f L xs thr n X G P np C kp fd ft ps T) : lwD d L xs 82 127 (.int (I (n : Int))) f m := by
  obtain ⟨-, ⟨⟨fp, hfo, -⟩, ⟨p, q, W, c, r, k1, k2, -⟩, -⟩, hRI, -⟩ := id hS
  obtain ⟨⟨stt, te, h266⟩, -⟩ := id hRI
  exact lwD_mk hS (s_X9_exampleCount (by omega) hfo k2) ⟨_, fun i hi => zup_ne (by omega), s_X10_exampleCount (by omega) h266, RI_set hRI h266⟩
theorem b_pieceCount (hd : 200 ≤ d) (hS : lwS f L xs thr n X G P np C kp fd ft ps T) : lwD d L xs 85 130 (.int (I (np : Int))) f m := by
  obtain ⟨-, ⟨⟨fp, hfo, -⟩, ⟨p, q, W, c, r, k1, k2, k3, ⟨a, a1, -⟩, -⟩, -⟩, hRI, -⟩ := id hS
  obtain ⟨⟨stt, te, h266⟩, -⟩ := id hRI
  exact lwD_mk hS (s_X9_pieceCount (by omega) hfo k2 a1) ⟨_, fun i hi => zup_ne (by omega), s_X10_pieceCount (by omega) h266, RI_set hRI h266⟩
theorem b_kept (hd : 200 ≤ d) (hS : lwS f L xs thr n X G P np C kp fd ft ps T) : lwD d L xs 88 141 (.int (I (kp : Int))) f m := by
  obtain ⟨-, ⟨⟨fp, hfo, -⟩, -, -, -, -, ⟨⟨w, u, x10⟩, -, -, KS, FS, SS, NS, TS, SL, WT, TB, x11, -⟩, -⟩, hRI, -⟩ := id hS
  obtain ⟨⟨stt, te, h266⟩, -⟩ := id hRI
  exact lwD_mk hS (s_X9_kept (by omega) hfo x10 x11) ⟨_, fun i hi => zup_ne (by omega), s_X10_kept (by omega) h266, RI_set hRI h266⟩
theorem b_isFound (hd : 200 ≤ d) (hS : lwS f L xs thr n X G P np C kp fd ft ps T) : lwD d L xs 89 142 (.int (I fd)) f m := by
  obtain ⟨-, ⟨⟨fp, hfo, -⟩, -⟩, hRI, -⟩ := id hS
  exact lwD_mk hS (s_X9_isFound (by omega) hfo (RI_fd hRI)) (r_isFound (by omega) hRI)
theorem b_digest (hd : 200 ≤ d) (hS : lwS f L xs thr n X G P np C kp fd ft ps T) : lwD d L xs 111 173 (.long (dga n X G np C fd ft ps T)) f m := lwD_mk hS (c_digest (by omega) hS.2.1) (r_digest (by omega) hS.2.2.1)
end
