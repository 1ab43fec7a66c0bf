def zB (tb : List zQ) (wl : List Cond) (q : zQ) (i : zI) : Bool := (decide (zlen i.2.1 = 0) || decide (i.2.2.1 = zlen i.2.1)) && (zneed tb q.y.cls i).all (fun w => decide (w ∈ wl)) && zstat tb q i
theorem zchk_of {tb : List zQ} {wl : List Cond} {q : zQ} (hd : ∀ i ∈ q.i, decode q.c i.1 = .ok (i.2.1, i.2.2.1)) (hB : q.i.all (zB tb wl q) = true) (hp : plainName q.y.cls = true) (hh : zhok q.y.cls q.c wl q.n q.h q.x = true) : zchk tb wl q = true := by
  simp only [zchk, Bool.and_eq_true]
  refine ⟨⟨List.all_eq_true.mpr fun i hi => ?_, hp⟩, hh⟩
  have := List.all_eq_true.mp hB i hi
  simp only [zB, Bool.and_eq_true] at this
  simp only [Bool.and_eq_true, decide_eq_true_eq]
  exact ⟨⟨⟨hd i hi, this.1.1⟩, this.1.2⟩, this.2⟩
/-- the reading in a row, an instruction a place -/
theorem zfacts {code : ByteArray} : ∀ (l : List zI) (pc : Nat), (∀ (k : Nat) (i : zI), l[k]? = some i → i.1 = pc + ((l.take k).map (fun i => i.2.2.1)).sum) → Jvm.Free.DS.Facts code pc (l.map (fun i => (i.2.1, i.2.2.1))) → ∀ i ∈ l, decode code i.1 = .ok (i.2.1, i.2.2.1)
  | [], _, _, _, i, hi => by cases hi
  | a :: l, pc, hp, hF, i, hi => by
    obtain ⟨h1, h2⟩ := hF
    rcases List.mem_cons.mp hi with rfl | hi
    · have := hp 0 i rfl
      rw [this]
      simpa using h1
    · refine zfacts l _ (fun k j hj => ?_) h2 i hi
      have := hp (k + 1) j (by simpa using hj)
      rw [this]
      simp [Nat.add_assoc]
def zseq : Nat → List zI → Bool
  | _, [] => true
  | pc, i :: r => i.1 == pc && zseq (pc + i.2.2.1) r
theorem zseq_ok : ∀ (l : List zI) (pc : Nat), zseq pc l = true → ∀ (k : Nat) (i : zI), l[k]? = some i → i.1 = pc + ((l.take k).map (fun i => i.2.2.1)).sum
  | [], _, _, k, i, h => by simp at h
  | a :: l, pc, hz, k, i, h => by
    simp only [zseq, Bool.and_eq_true, beq_iff_eq] at hz
    cases k with
    | zero => simp at h; subst h; simpa using hz.1
    | succ k =>
      have := zseq_ok l _ hz.2 k i (by simpa using h)
      rw [this]
      simp [Nat.add_assoc]
set_option maxRecDepth 1000000 in
theorem zdL_law : ∀ i ∈ zqL_law.i, decode zqL_law.c i.1 = .ok (i.2.1, i.2.2.1) := zfacts _ 0 (zseq_ok _ 0 (by decide +kernel)) (Jvm.Free.DS.facts 0 _ (by decide +kernel) (by decide +kernel))
set_option maxRecDepth 100000 in
theorem zbL0 : ((zqL_law.i.drop (50 * 0)).take 50).all (zB zTb zwL_law zqL_law) = true := by decide +kernel
set_option maxRecDepth 100000 in
theorem zbL1 : ((zqL_law.i.drop (50 * 1)).take 50).all (zB zTb zwL_law zqL_law) = true := by decide +kernel
set_option maxRecDepth 100000 in
theorem zbL2 : ((zqL_law.i.drop (50 * 2)).take 50).all (zB zTb zwL_law zqL_law) = true := by decide +kernel
set_option maxRecDepth 100000 in
theorem zbL3 : ((zqL_law.i.drop (50 * 3)).take 50).all (zB zTb zwL_law zqL_law) = true := by decide +kernel
set_option maxRecDepth 100000 in
theorem zbL4 : ((zqL_law.i.drop (50 * 4)).take 50).all (zB zTb zwL_law zqL_law) = true := by decide +kernel
set_option maxRecDepth 100000 in
theorem zbL5 : ((zqL_law.i.drop (50 * 5)).take 50).all (zB zTb zwL_law zqL_law) = true := by decide +kernel
set_option maxRecDepth 100000 in
theorem zbL6 : ((zqL_law.i.drop (50 * 6)).take 50).all (zB zTb zwL_law zqL_law) = true := by decide +kernel
set_option maxRecDepth 100000 in
theorem zbL7 : ((zqL_law.i.drop (50 * 7)).take 50).all (zB zTb zwL_law zqL_law) = true := by decide +kernel
set_option maxRecDepth 100000 in
theorem zbL8 : ((zqL_law.i.drop (50 * 8)).take 50).all (zB zTb zwL_law zqL_law) = true := by decide +kernel
set_option maxRecDepth 100000 in
theorem zbL9 : ((zqL_law.i.drop (50 * 9)).take 50).all (zB zTb zwL_law zqL_law) = true := by decide +kernel
set_option maxRecDepth 100000 in
theorem zbL10 : ((zqL_law.i.drop (50 * 10)).take 50).all (zB zTb zwL_law zqL_law) = true := by decide +kernel
set_option maxRecDepth 100000 in
theorem zbL11 : ((zqL_law.i.drop (50 * 11)).take 50).all (zB zTb zwL_law zqL_law) = true := by decide +kernel
set_option maxRecDepth 100000 in
theorem zbL12 : ((zqL_law.i.drop (50 * 12)).take 50).all (zB zTb zwL_law zqL_law) = true := by decide +kernel
set_option maxRecDepth 100000 in
theorem zbL13 : ((zqL_law.i.drop (50 * 13)).take 50).all (zB zTb zwL_law zqL_law) = true := by decide +kernel
set_option maxRecDepth 100000 in
theorem zbL14 : ((zqL_law.i.drop (50 * 14)).take 50).all (zB zTb zwL_law zqL_law) = true := by decide +kernel
set_option maxRecDepth 100000 in
theorem zbL15 : ((zqL_law.i.drop (50 * 15)).take 50).all (zB zTb zwL_law zqL_law) = true := by decide +kernel
set_option maxRecDepth 100000 in
theorem zbL16 : ((zqL_law.i.drop (50 * 16)).take 50).all (zB zTb zwL_law zqL_law) = true := by decide +kernel
set_option maxRecDepth 100000 in
theorem zbL17 : ((zqL_law.i.drop (50 * 17)).take 50).all (zB zTb zwL_law zqL_law) = true := by decide +kernel
set_option maxRecDepth 100000 in
theorem zbL18 : ((zqL_law.i.drop (50 * 18)).take 50).all (zB zTb zwL_law zqL_law) = true := by decide +kernel
set_option maxRecDepth 100000 in
theorem zbL19 : ((zqL_law.i.drop (50 * 19)).take 50).all (zB zTb zwL_law zqL_law) = true := by decide +kernel
set_option maxRecDepth 100000 in
theorem zbL20 : ((zqL_law.i.drop (50 * 20)).take 50).all (zB zTb zwL_law zqL_law) = true := by decide +kernel
set_option maxRecDepth 100000 in
theorem zkL_law : zchk zTb zwL_law zqL_law = true := by
  refine zchk_of zdL_law (zall_chunks _ 50 21 _ (by decide +kernel) fun j hj => ?_) (by decide +kernel) (by decide +kernel)
  match j, hj with
  | 0, _ => exact zbL0
  | 1, _ => exact zbL1
  | 2, _ => exact zbL2
  | 3, _ => exact zbL3
  | 4, _ => exact zbL4
  | 5, _ => exact zbL5
  | 6, _ => exact zbL6
  | 7, _ => exact zbL7
  | 8, _ => exact zbL8
  | 9, _ => exact zbL9
  | 10, _ => exact zbL10
  | 11, _ => exact zbL11
  | 12, _ => exact zbL12
  | 13, _ => exact zbL13
  | 14, _ => exact zbL14
  | 15, _ => exact zbL15
  | 16, _ => exact zbL16
  | 17, _ => exact zbL17
  | 18, _ => exact zbL18
  | 19, _ => exact zbL19
  | 20, _ => exact zbL20
  | j + 21, h => omega
