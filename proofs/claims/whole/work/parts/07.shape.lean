/-! the cells of the two sides, and what their fields and arrays are: made by wip/whole/gen_shape.py -/
def lL (z : Int) : Int64 := Int64.ofInt z
def cM (h : zH) : List aC := [.inl (7, [.int (iI (gs h 0)), .int (iI (gs h 1)), .int (iI (gs h 2)), .int (iI (gs h 3)), .int (iI (gs h 4)), .int (iI (gs h 5)), .int (iI (gs h 6)), .int (iI (gs h 7)), .int (iI (gs h 8)), .ref 1, .int (iI (gs h 10)), .ref 2, .ref 3, .ref 4, .ref 5, .ref 6, .ref 7, .ref 8, .ref 9, .int (iI (gs h 19)), .int (iI (gs h 20)), .int (iI (gs h 21)), .int (iI (gs h 22)), .int (iI (gs h 23)), .int (iI (gs h 24)), .int (iI (gs h 25)), .int (iI (gs h 26)), .ref 10, .ref 11, .ref 12, .ref 13, .ref 14, .int (iI (gs h 32)), .int (iI (gs h 33)), .int (iI (gs h 34)), .int (iI (gs h 35)), .int (iI (gs h 36)), .ref 15, .int (iI (gs h 38)), .int (iI (gs h 39)), .ref 16, .int (iI (gs h 41)), .int (iI (gs h 42)), .int (iI (gs h 43)), .int (iI (gs h 44)), .int (iI (gs h 45)), .int (iI (gs h 46)), .int (iI (gs h 47)), .int (iI (gs h 48)), .long (lL (gs h 1049)), .ref 17]), .inr (0, 64, fun j => iI (ga h 1 (j : Int))), .inr (0, 1024, fun j => iI (ga h 2 (j : Int))), .inr (0, 1024, fun j => iI (ga h 3 (j : Int))), .inr (0, 1024, fun j => iI (ga h 4 (j : Int))), .inr (0, 1024, fun j => iI (ga h 5 (j : Int))), .inr (0, 1024, fun j => iI (ga h 6 (j : Int))), .inr (0, 1024, fun j => iI (ga h 7 (j : Int))), .inr (0, 8192, fun j => iI (ga h 8 (j : Int))), .inr (0, 32, fun j => iI (ga h 9 (j : Int))), .inr (0, 64, fun j => iI (ga h 10 (j : Int))), .inr (0, 64, fun j => iI (ga h 11 (j : Int))), .inr (0, 64, fun j => iI (ga h 12 (j : Int))), .inr (0, 256, fun j => iI (ga h 13 (j : Int))), .inr (1, 4, fun j => iI (ga h 14 (j : Int))), .inr (0, 1001, fun j => iI (ga h 15 (j : Int))), .inr (0, 600, fun j => iI (ga h 16 (j : Int))), .inr (0, 64, fun j => iI (ga h 17 (j : Int)))]
theorem fX7_thrown : zFld cM 0 7 0 0 := fun h => ⟨_, rfl, rfl, Nat.le_of_ble_eq_true rfl, fun v => rfl⟩
theorem fX7_blocks : zFld cM 0 7 1 1 := fun h => ⟨_, rfl, rfl, Nat.le_of_ble_eq_true rfl, fun v => rfl⟩
theorem fX7_pages : zFld cM 0 7 2 2 := fun h => ⟨_, rfl, rfl, Nat.le_of_ble_eq_true rfl, fun v => rfl⟩
theorem fX7_logical : zFld cM 0 7 3 3 := fun h => ⟨_, rfl, rfl, Nat.le_of_ble_eq_true rfl, fun v => rfl⟩
theorem fX7_every : zFld cM 0 7 4 4 := fun h => ⟨_, rfl, rfl, Nat.le_of_ble_eq_true rfl, fun v => rfl⟩
theorem fX7_newBlocks : zFld cM 0 7 5 5 := fun h => ⟨_, rfl, rfl, Nat.le_of_ble_eq_true rfl, fun v => rfl⟩
theorem fX7_newPages : zFld cM 0 7 6 6 := fun h => ⟨_, rfl, rfl, Nat.le_of_ble_eq_true rfl, fun v => rfl⟩
theorem fX7_newLogical : zFld cM 0 7 7 7 := fun h => ⟨_, rfl, rfl, Nat.le_of_ble_eq_true rfl, fun v => rfl⟩
theorem fX7_newEvery : zFld cM 0 7 8 8 := fun h => ⟨_, rfl, rfl, Nat.le_of_ble_eq_true rfl, fun v => rfl⟩
theorem fX7_fill : zRef cM 0 7 9 1 := fun h => ⟨_, rfl, rfl⟩
theorem aX7_fill : zArr cM 1 0 64 := by
  refine fun h => ⟨rfl, fun f h' hf hb hs => ?_⟩
  have ef : f = fun j : Nat => iI (ga h' 1 (j : Int)) := funext hf
  subst ef
  unfold cM
  simp only [hs, hb 2 (by decide), hb 3 (by decide), hb 4 (by decide), hb 5 (by decide), hb 6 (by decide), hb 7 (by decide), hb 8 (by decide), hb 9 (by decide), hb 10 (by decide), hb 11 (by decide), hb 12 (by decide), hb 13 (by decide), hb 14 (by decide), hb 15 (by decide), hb 16 (by decide), hb 17 (by decide)]
  rfl
theorem fX7_fillMany : zFld cM 0 7 10 10 := fun h => ⟨_, rfl, rfl, Nat.le_of_ble_eq_true rfl, fun v => rfl⟩
theorem fX7_kind : zRef cM 0 7 11 2 := fun h => ⟨_, rfl, rfl⟩
theorem aX7_kind : zArr cM 2 0 1024 := by
  refine fun h => ⟨rfl, fun f h' hf hb hs => ?_⟩
  have ef : f = fun j : Nat => iI (ga h' 2 (j : Int)) := funext hf
  subst ef
  unfold cM
  simp only [hs, hb 1 (by decide), hb 3 (by decide), hb 4 (by decide), hb 5 (by decide), hb 6 (by decide), hb 7 (by decide), hb 8 (by decide), hb 9 (by decide), hb 10 (by decide), hb 11 (by decide), hb 12 (by decide), hb 13 (by decide), hb 14 (by decide), hb 15 (by decide), hb 16 (by decide), hb 17 (by decide)]
  rfl
theorem fX7_index : zRef cM 0 7 12 3 := fun h => ⟨_, rfl, rfl⟩
theorem aX7_index : zArr cM 3 0 1024 := by
  refine fun h => ⟨rfl, fun f h' hf hb hs => ?_⟩
  have ef : f = fun j : Nat => iI (ga h' 3 (j : Int)) := funext hf
  subst ef
  unfold cM
  simp only [hs, hb 1 (by decide), hb 2 (by decide), hb 4 (by decide), hb 5 (by decide), hb 6 (by decide), hb 7 (by decide), hb 8 (by decide), hb 9 (by decide), hb 10 (by decide), hb 11 (by decide), hb 12 (by decide), hb 13 (by decide), hb 14 (by decide), hb 15 (by decide), hb 16 (by decide), hb 17 (by decide)]
  rfl
theorem fX7_group : zRef cM 0 7 13 4 := fun h => ⟨_, rfl, rfl⟩
theorem aX7_group : zArr cM 4 0 1024 := by
  refine fun h => ⟨rfl, fun f h' hf hb hs => ?_⟩
  have ef : f = fun j : Nat => iI (ga h' 4 (j : Int)) := funext hf
  subst ef
  unfold cM
  simp only [hs, hb 1 (by decide), hb 2 (by decide), hb 3 (by decide), hb 5 (by decide), hb 6 (by decide), hb 7 (by decide), hb 8 (by decide), hb 9 (by decide), hb 10 (by decide), hb 11 (by decide), hb 12 (by decide), hb 13 (by decide), hb 14 (by decide), hb 15 (by decide), hb 16 (by decide), hb 17 (by decide)]
  rfl
theorem fX7_version : zRef cM 0 7 14 5 := fun h => ⟨_, rfl, rfl⟩
theorem aX7_version : zArr cM 5 0 1024 := by
  refine fun h => ⟨rfl, fun f h' hf hb hs => ?_⟩
  have ef : f = fun j : Nat => iI (ga h' 5 (j : Int)) := funext hf
  subst ef
  unfold cM
  simp only [hs, hb 1 (by decide), hb 2 (by decide), hb 3 (by decide), hb 4 (by decide), hb 6 (by decide), hb 7 (by decide), hb 8 (by decide), hb 9 (by decide), hb 10 (by decide), hb 11 (by decide), hb 12 (by decide), hb 13 (by decide), hb 14 (by decide), hb 15 (by decide), hb 16 (by decide), hb 17 (by decide)]
  rfl
theorem fX7_sequence : zRef cM 0 7 15 6 := fun h => ⟨_, rfl, rfl⟩
theorem aX7_sequence : zArr cM 6 0 1024 := by
  refine fun h => ⟨rfl, fun f h' hf hb hs => ?_⟩
  have ef : f = fun j : Nat => iI (ga h' 6 (j : Int)) := funext hf
  subst ef
  unfold cM
  simp only [hs, hb 1 (by decide), hb 2 (by decide), hb 3 (by decide), hb 4 (by decide), hb 5 (by decide), hb 7 (by decide), hb 8 (by decide), hb 9 (by decide), hb 10 (by decide), hb 11 (by decide), hb 12 (by decide), hb 13 (by decide), hb 14 (by decide), hb 15 (by decide), hb 16 (by decide), hb 17 (by decide)]
  rfl
theorem fX7_value : zRef cM 0 7 16 7 := fun h => ⟨_, rfl, rfl⟩
theorem aX7_value : zArr cM 7 0 1024 := by
  refine fun h => ⟨rfl, fun f h' hf hb hs => ?_⟩
  have ef : f = fun j : Nat => iI (ga h' 7 (j : Int)) := funext hf
  subst ef
  unfold cM
  simp only [hs, hb 1 (by decide), hb 2 (by decide), hb 3 (by decide), hb 4 (by decide), hb 5 (by decide), hb 6 (by decide), hb 8 (by decide), hb 9 (by decide), hb 10 (by decide), hb 11 (by decide), hb 12 (by decide), hb 13 (by decide), hb 14 (by decide), hb 15 (by decide), hb 16 (by decide), hb 17 (by decide)]
  rfl
theorem fX7_mapped : zRef cM 0 7 17 8 := fun h => ⟨_, rfl, rfl⟩
theorem aX7_mapped : zArr cM 8 0 8192 := by
  refine fun h => ⟨rfl, fun f h' hf hb hs => ?_⟩
  have ef : f = fun j : Nat => iI (ga h' 8 (j : Int)) := funext hf
  subst ef
  unfold cM
  simp only [hs, hb 1 (by decide), hb 2 (by decide), hb 3 (by decide), hb 4 (by decide), hb 5 (by decide), hb 6 (by decide), hb 7 (by decide), hb 9 (by decide), hb 10 (by decide), hb 11 (by decide), hb 12 (by decide), hb 13 (by decide), hb 14 (by decide), hb 15 (by decide), hb 16 (by decide), hb 17 (by decide)]
  rfl
theorem fX7_eraseCount : zRef cM 0 7 18 9 := fun h => ⟨_, rfl, rfl⟩
theorem aX7_eraseCount : zArr cM 9 0 32 := by
  refine fun h => ⟨rfl, fun f h' hf hb hs => ?_⟩
  have ef : f = fun j : Nat => iI (ga h' 9 (j : Int)) := funext hf
  subst ef
  unfold cM
  simp only [hs, hb 1 (by decide), hb 2 (by decide), hb 3 (by decide), hb 4 (by decide), hb 5 (by decide), hb 6 (by decide), hb 7 (by decide), hb 8 (by decide), hb 10 (by decide), hb 11 (by decide), hb 12 (by decide), hb 13 (by decide), hb 14 (by decide), hb 15 (by decide), hb 16 (by decide), hb 17 (by decide)]
  rfl
theorem fX7_latestSequence : zFld cM 0 7 19 19 := fun h => ⟨_, rfl, rfl, Nat.le_of_ble_eq_true rfl, fun v => rfl⟩
theorem fX7_programs : zFld cM 0 7 20 20 := fun h => ⟨_, rfl, rfl, Nat.le_of_ble_eq_true rfl, fun v => rfl⟩
theorem fX7_erases : zFld cM 0 7 21 21 := fun h => ⟨_, rfl, rfl, Nat.le_of_ble_eq_true rfl, fun v => rfl⟩
theorem fX7_copies : zFld cM 0 7 22 22 := fun h => ⟨_, rfl, rfl, Nat.le_of_ble_eq_true rfl, fun v => rfl⟩
theorem fX7_writes : zFld cM 0 7 23 23 := fun h => ⟨_, rfl, rfl, Nat.le_of_ble_eq_true rfl, fun v => rfl⟩
theorem fX7_losses : zFld cM 0 7 24 24 := fun h => ⟨_, rfl, rfl, Nat.le_of_ble_eq_true rfl, fun v => rfl⟩
theorem fX7_armed : zFld cM 0 7 25 25 := fun h => ⟨_, rfl, rfl, Nat.le_of_ble_eq_true rfl, fun v => rfl⟩
theorem fX7_on : zFld cM 0 7 26 26 := fun h => ⟨_, rfl, rfl, Nat.le_of_ble_eq_true rfl, fun v => rfl⟩
theorem fX7_committed : zRef cM 0 7 27 10 := fun h => ⟨_, rfl, rfl⟩
theorem aX7_committed : zArr cM 10 0 64 := by
  refine fun h => ⟨rfl, fun f h' hf hb hs => ?_⟩
  have ef : f = fun j : Nat => iI (ga h' 10 (j : Int)) := funext hf
  subst ef
  unfold cM
  simp only [hs, hb 1 (by decide), hb 2 (by decide), hb 3 (by decide), hb 4 (by decide), hb 5 (by decide), hb 6 (by decide), hb 7 (by decide), hb 8 (by decide), hb 9 (by decide), hb 11 (by decide), hb 12 (by decide), hb 13 (by decide), hb 14 (by decide), hb 15 (by decide), hb 16 (by decide), hb 17 (by decide)]
  rfl
theorem fX7_locker : zRef cM 0 7 28 11 := fun h => ⟨_, rfl, rfl⟩
theorem aX7_locker : zArr cM 11 0 64 := by
  refine fun h => ⟨rfl, fun f h' hf hb hs => ?_⟩
  have ef : f = fun j : Nat => iI (ga h' 11 (j : Int)) := funext hf
  subst ef
  unfold cM
  simp only [hs, hb 1 (by decide), hb 2 (by decide), hb 3 (by decide), hb 4 (by decide), hb 5 (by decide), hb 6 (by decide), hb 7 (by decide), hb 8 (by decide), hb 9 (by decide), hb 10 (by decide), hb 12 (by decide), hb 13 (by decide), hb 14 (by decide), hb 15 (by decide), hb 16 (by decide), hb 17 (by decide)]
  rfl
theorem fX7_shadow : zRef cM 0 7 29 12 := fun h => ⟨_, rfl, rfl⟩
theorem aX7_shadow : zArr cM 12 0 64 := by
  refine fun h => ⟨rfl, fun f h' hf hb hs => ?_⟩
  have ef : f = fun j : Nat => iI (ga h' 12 (j : Int)) := funext hf
  subst ef
  unfold cM
  simp only [hs, hb 1 (by decide), hb 2 (by decide), hb 3 (by decide), hb 4 (by decide), hb 5 (by decide), hb 6 (by decide), hb 7 (by decide), hb 8 (by decide), hb 9 (by decide), hb 10 (by decide), hb 11 (by decide), hb 13 (by decide), hb 14 (by decide), hb 15 (by decide), hb 16 (by decide), hb 17 (by decide)]
  rfl
theorem fX7_readerVersion : zRef cM 0 7 30 13 := fun h => ⟨_, rfl, rfl⟩
theorem aX7_readerVersion : zArr cM 13 0 256 := by
  refine fun h => ⟨rfl, fun f h' hf hb hs => ?_⟩
  have ef : f = fun j : Nat => iI (ga h' 13 (j : Int)) := funext hf
  subst ef
  unfold cM
  simp only [hs, hb 1 (by decide), hb 2 (by decide), hb 3 (by decide), hb 4 (by decide), hb 5 (by decide), hb 6 (by decide), hb 7 (by decide), hb 8 (by decide), hb 9 (by decide), hb 10 (by decide), hb 11 (by decide), hb 12 (by decide), hb 14 (by decide), hb 15 (by decide), hb 16 (by decide), hb 17 (by decide)]
  rfl
theorem fX7_isReader : zRef cM 0 7 31 14 := fun h => ⟨_, rfl, rfl⟩
theorem aX7_isReader : zArr cM 14 1 4 := by
  refine fun h => ⟨rfl, fun f h' hf hb hs => ?_⟩
  have ef : f = fun j : Nat => iI (ga h' 14 (j : Int)) := funext hf
  subst ef
  unfold cM
  simp only [hs, hb 1 (by decide), hb 2 (by decide), hb 3 (by decide), hb 4 (by decide), hb 5 (by decide), hb 6 (by decide), hb 7 (by decide), hb 8 (by decide), hb 9 (by decide), hb 10 (by decide), hb 11 (by decide), hb 12 (by decide), hb 13 (by decide), hb 15 (by decide), hb 16 (by decide), hb 17 (by decide)]
  rfl
theorem fX7_active : zFld cM 0 7 32 32 := fun h => ⟨_, rfl, rfl, Nat.le_of_ble_eq_true rfl, fun v => rfl⟩
theorem fX7_latest : zFld cM 0 7 33 33 := fun h => ⟨_, rfl, rfl, Nat.le_of_ble_eq_true rfl, fun v => rfl⟩
theorem fX7_endVersion : zFld cM 0 7 34 34 := fun h => ⟨_, rfl, rfl, Nat.le_of_ble_eq_true rfl, fun v => rfl⟩
theorem fX7_making : zFld cM 0 7 35 35 := fun h => ⟨_, rfl, rfl, Nat.le_of_ble_eq_true rfl, fun v => rfl⟩
theorem fX7_commits : zFld cM 0 7 36 36 := fun h => ⟨_, rfl, rfl, Nat.le_of_ble_eq_true rfl, fun v => rfl⟩
theorem fX7_states : zRef cM 0 7 37 15 := fun h => ⟨_, rfl, rfl⟩
theorem aX7_states : zArr cM 15 0 1001 := by
  refine fun h => ⟨rfl, fun f h' hf hb hs => ?_⟩
  have ef : f = fun j : Nat => iI (ga h' 15 (j : Int)) := funext hf
  subst ef
  unfold cM
  simp only [hs, hb 1 (by decide), hb 2 (by decide), hb 3 (by decide), hb 4 (by decide), hb 5 (by decide), hb 6 (by decide), hb 7 (by decide), hb 8 (by decide), hb 9 (by decide), hb 10 (by decide), hb 11 (by decide), hb 12 (by decide), hb 13 (by decide), hb 14 (by decide), hb 16 (by decide), hb 17 (by decide)]
  rfl
theorem fX7_begun : zFld cM 0 7 38 38 := fun h => ⟨_, rfl, rfl, Nat.le_of_ble_eq_true rfl, fun v => rfl⟩
theorem fX7_checkpoints : zFld cM 0 7 39 39 := fun h => ⟨_, rfl, rfl, Nat.le_of_ble_eq_true rfl, fun v => rfl⟩
theorem fX7_buffer : zRef cM 0 7 40 16 := fun h => ⟨_, rfl, rfl⟩
theorem aX7_buffer : zArr cM 16 0 600 := by
  refine fun h => ⟨rfl, fun f h' hf hb hs => ?_⟩
  have ef : f = fun j : Nat => iI (ga h' 16 (j : Int)) := funext hf
  subst ef
  unfold cM
  simp only [hs, hb 1 (by decide), hb 2 (by decide), hb 3 (by decide), hb 4 (by decide), hb 5 (by decide), hb 6 (by decide), hb 7 (by decide), hb 8 (by decide), hb 9 (by decide), hb 10 (by decide), hb 11 (by decide), hb 12 (by decide), hb 13 (by decide), hb 14 (by decide), hb 15 (by decide), hb 17 (by decide)]
  rfl
theorem fX7_buffered : zFld cM 0 7 41 41 := fun h => ⟨_, rfl, rfl, Nat.le_of_ble_eq_true rfl, fun v => rfl⟩
theorem fX7_position : zFld cM 0 7 42 42 := fun h => ⟨_, rfl, rfl, Nat.le_of_ble_eq_true rfl, fun v => rfl⟩
theorem fX7_end : zFld cM 0 7 43 43 := fun h => ⟨_, rfl, rfl, Nat.le_of_ble_eq_true rfl, fun v => rfl⟩
theorem fX7_lastEnd : zFld cM 0 7 44 44 := fun h => ⟨_, rfl, rfl, Nat.le_of_ble_eq_true rfl, fun v => rfl⟩
theorem fX7_tokenAt : zFld cM 0 7 45 45 := fun h => ⟨_, rfl, rfl, Nat.le_of_ble_eq_true rfl, fun v => rfl⟩
theorem fX7_number : zFld cM 0 7 46 46 := fun h => ⟨_, rfl, rfl, Nat.le_of_ble_eq_true rfl, fun v => rfl⟩
theorem fX7_code : zFld cM 0 7 47 47 := fun h => ⟨_, rfl, rfl, Nat.le_of_ble_eq_true rfl, fun v => rfl⟩
theorem fX7_codeAt : zFld cM 0 7 48 48 := fun h => ⟨_, rfl, rfl, Nat.le_of_ble_eq_true rfl, fun v => rfl⟩
-- fX7_word: long
theorem fX7_greatest : zRef cM 0 7 50 17 := fun h => ⟨_, rfl, rfl⟩
theorem aX7_greatest : zArr cM 17 0 64 := by
  refine fun h => ⟨rfl, fun f h' hf hb hs => ?_⟩
  have ef : f = fun j : Nat => iI (ga h' 17 (j : Int)) := funext hf
  subst ef
  unfold cM
  simp only [hs, hb 1 (by decide), hb 2 (by decide), hb 3 (by decide), hb 4 (by decide), hb 5 (by decide), hb 6 (by decide), hb 7 (by decide), hb 8 (by decide), hb 9 (by decide), hb 10 (by decide), hb 11 (by decide), hb 12 (by decide), hb 13 (by decide), hb 14 (by decide), hb 15 (by decide), hb 16 (by decide)]
  rfl
def cX (h : zH) : List aC := [.inl (6, [.ref 1, .ref 2]), .inl (2, [.ref 7, .ref 8, .int (iI (gs h 22)), .int (iI (gs h 23)), .int (iI (gs h 24)), .int (iI (gs h 25)), .int (iI (gs h 26)), .int (iI (gs h 27)), .int (iI (gs h 28)), .int (iI (gs h 29)), .int (iI (gs h 30))]), .inl (0, [.ref 3, .ref 4, .ref 5, .ref 6, .ref 9, .int (iI (gs h 45)), .int (iI (gs h 46)), .int (iI (gs h 47)), .int (iI (gs h 48)), .int (iI (gs h 49)), .int (iI (gs h 50)), .int (iI (gs h 51)), .int (iI (gs h 52)), .int (iI (gs h 53)), .int (iI (gs h 54))]), .inl (1, [.ref 10, .ref 11, .ref 12, .ref 13, .ref 14, .ref 15, .ref 16, .ref 17, .ref 18, .ref 19, .int (iI (gs h 70)), .int (iI (gs h 71)), .int (iI (gs h 72)), .int (iI (gs h 73)), .int (iI (gs h 74)), .int (iI (gs h 75)), .int (iI (gs h 76)), .int (iI (gs h 77))]), .inl (3, [.ref 20, .int (iI (gs h 81))]), .inl (4, [.ref 21, .ref 22, .ref 23, .ref 24, .int (iI (gs h 104)), .int (iI (gs h 105)), .int (iI (gs h 106))]), .inl (5, [.ref 25, .ref 26, .int (iI (gs h 122))]), .inr (0, 600, fun j => iI (ga h 7 (j : Int))), .inr (0, 64, fun j => iI (ga h 8 (j : Int))), .inr (0, 32, fun j => iI (ga h 9 (j : Int))), .inr (0, 1024, fun j => iI (ga h 10 (j : Int))), .inr (0, 1024, fun j => iI (ga h 11 (j : Int))), .inr (0, 1024, fun j => iI (ga h 12 (j : Int))), .inr (0, 1024, fun j => iI (ga h 13 (j : Int))), .inr (0, 1024, fun j => iI (ga h 14 (j : Int))), .inr (0, 1024, fun j => iI (ga h 15 (j : Int))), .inr (0, 8192, fun j => iI (ga h 16 (j : Int))), .inr (1, 1024, fun j => iI (ga h 17 (j : Int))), .inr (0, 32, fun j => iI (ga h 18 (j : Int))), .inr (0, 32, fun j => iI (ga h 19 (j : Int))), .inr (0, 1001, fun j => iI (ga h 20 (j : Int))), .inr (0, 64, fun j => iI (ga h 21 (j : Int))), .inr (0, 64, fun j => iI (ga h 22 (j : Int))), .inr (0, 64, fun j => iI (ga h 23 (j : Int))), .inr (0, 256, fun j => iI (ga h 24 (j : Int))), .inr (0, 1024, fun j => iI (ga h 25 (j : Int))), .inr (0, 64, fun j => iI (ga h 26 (j : Int)))]
theorem fX6_text : zRef cX 0 6 0 1 := fun h => ⟨_, rfl, rfl⟩
theorem fX6_device : zRef cX 0 6 1 2 := fun h => ⟨_, rfl, rfl⟩
theorem fX2_bytes : zRef cX 1 2 0 7 := fun h => ⟨_, rfl, rfl⟩
theorem aX2_bytes : zArr cX 7 0 600 := by
  refine fun h => ⟨rfl, fun f h' hf hb hs => ?_⟩
  have ef : f = fun j : Nat => iI (ga h' 7 (j : Int)) := funext hf
  subst ef
  unfold cX
  simp only [hs, hb 8 (by decide), hb 9 (by decide), hb 10 (by decide), hb 11 (by decide), hb 12 (by decide), hb 13 (by decide), hb 14 (by decide), hb 15 (by decide), hb 16 (by decide), hb 17 (by decide), hb 18 (by decide), hb 19 (by decide), hb 20 (by decide), hb 21 (by decide), hb 22 (by decide), hb 23 (by decide), hb 24 (by decide), hb 25 (by decide), hb 26 (by decide)]
  rfl
theorem fX2_values : zRef cX 1 2 1 8 := fun h => ⟨_, rfl, rfl⟩
theorem aX2_values : zArr cX 8 0 64 := by
  refine fun h => ⟨rfl, fun f h' hf hb hs => ?_⟩
  have ef : f = fun j : Nat => iI (ga h' 8 (j : Int)) := funext hf
  subst ef
  unfold cX
  simp only [hs, hb 7 (by decide), hb 9 (by decide), hb 10 (by decide), hb 11 (by decide), hb 12 (by decide), hb 13 (by decide), hb 14 (by decide), hb 15 (by decide), hb 16 (by decide), hb 17 (by decide), hb 18 (by decide), hb 19 (by decide), hb 20 (by decide), hb 21 (by decide), hb 22 (by decide), hb 23 (by decide), hb 24 (by decide), hb 25 (by decide), hb 26 (by decide)]
  rfl
theorem fX2_length : zFld cX 1 2 2 22 := fun h => ⟨_, rfl, rfl, Nat.le_of_ble_eq_true rfl, fun v => rfl⟩
theorem fX2_errorFound : zFld cX 1 2 3 23 := fun h => ⟨_, rfl, rfl, Nat.le_of_ble_eq_true rfl, fun v => rfl⟩
theorem fX2_errorPlace : zFld cX 1 2 4 24 := fun h => ⟨_, rfl, rfl, Nat.le_of_ble_eq_true rfl, fun v => rfl⟩
theorem fX2_blockCount : zFld cX 1 2 5 25 := fun h => ⟨_, rfl, rfl, Nat.le_of_ble_eq_true rfl, fun v => rfl⟩
theorem fX2_blockSize : zFld cX 1 2 6 26 := fun h => ⟨_, rfl, rfl, Nat.le_of_ble_eq_true rfl, fun v => rfl⟩
theorem fX2_logicalCount : zFld cX 1 2 7 27 := fun h => ⟨_, rfl, rfl, Nat.le_of_ble_eq_true rfl, fun v => rfl⟩
theorem fX2_every : zFld cX 1 2 8 28 := fun h => ⟨_, rfl, rfl, Nat.le_of_ble_eq_true rfl, fun v => rfl⟩
theorem fX2_valueCount : zFld cX 1 2 9 29 := fun h => ⟨_, rfl, rfl, Nat.le_of_ble_eq_true rfl, fun v => rfl⟩
theorem fX2_step : zFld cX 1 2 10 30 := fun h => ⟨_, rfl, rfl, Nat.le_of_ble_eq_true rfl, fun v => rfl⟩
theorem fX0_flash : zRef cX 2 0 0 3 := fun h => ⟨_, rfl, rfl⟩
theorem fX0_ledger : zRef cX 2 0 1 4 := fun h => ⟨_, rfl, rfl⟩
theorem fX0_table : zRef cX 2 0 2 5 := fun h => ⟨_, rfl, rfl⟩
theorem fX0_replay : zRef cX 2 0 3 6 := fun h => ⟨_, rfl, rfl⟩
theorem fX0_liveIn : zRef cX 2 0 4 9 := fun h => ⟨_, rfl, rfl⟩
theorem aX0_liveIn : zArr cX 9 0 32 := by
  refine fun h => ⟨rfl, fun f h' hf hb hs => ?_⟩
  have ef : f = fun j : Nat => iI (ga h' 9 (j : Int)) := funext hf
  subst ef
  unfold cX
  simp only [hs, hb 7 (by decide), hb 8 (by decide), hb 10 (by decide), hb 11 (by decide), hb 12 (by decide), hb 13 (by decide), hb 14 (by decide), hb 15 (by decide), hb 16 (by decide), hb 17 (by decide), hb 18 (by decide), hb 19 (by decide), hb 20 (by decide), hb 21 (by decide), hb 22 (by decide), hb 23 (by decide), hb 24 (by decide), hb 25 (by decide), hb 26 (by decide)]
  rfl
theorem fX0_on : zFld cX 2 0 5 45 := fun h => ⟨_, rfl, rfl, Nat.le_of_ble_eq_true rfl, fun v => rfl⟩
theorem fX0_active : zFld cX 2 0 6 46 := fun h => ⟨_, rfl, rfl, Nat.le_of_ble_eq_true rfl, fun v => rfl⟩
theorem fX0_every : zFld cX 2 0 7 47 := fun h => ⟨_, rfl, rfl, Nat.le_of_ble_eq_true rfl, fun v => rfl⟩
theorem fX0_commitCount : zFld cX 2 0 8 48 := fun h => ⟨_, rfl, rfl, Nat.le_of_ble_eq_true rfl, fun v => rfl⟩
theorem fX0_checkpointCount : zFld cX 2 0 9 49 := fun h => ⟨_, rfl, rfl, Nat.le_of_ble_eq_true rfl, fun v => rfl⟩
theorem fX0_latest : zFld cX 2 0 10 50 := fun h => ⟨_, rfl, rfl, Nat.le_of_ble_eq_true rfl, fun v => rfl⟩
theorem fX0_latestEnd : zFld cX 2 0 11 51 := fun h => ⟨_, rfl, rfl, Nat.le_of_ble_eq_true rfl, fun v => rfl⟩
theorem fX0_inTheMaking : zFld cX 2 0 12 52 := fun h => ⟨_, rfl, rfl, Nat.le_of_ble_eq_true rfl, fun v => rfl⟩
theorem fX0_writeCount : zFld cX 2 0 13 53 := fun h => ⟨_, rfl, rfl, Nat.le_of_ble_eq_true rfl, fun v => rfl⟩
theorem fX0_lossCount : zFld cX 2 0 14 54 := fun h => ⟨_, rfl, rfl, Nat.le_of_ble_eq_true rfl, fun v => rfl⟩
theorem fX1_kind : zRef cX 3 1 0 10 := fun h => ⟨_, rfl, rfl⟩
theorem aX1_kind : zArr cX 10 0 1024 := by
  refine fun h => ⟨rfl, fun f h' hf hb hs => ?_⟩
  have ef : f = fun j : Nat => iI (ga h' 10 (j : Int)) := funext hf
  subst ef
  unfold cX
  simp only [hs, hb 7 (by decide), hb 8 (by decide), hb 9 (by decide), hb 11 (by decide), hb 12 (by decide), hb 13 (by decide), hb 14 (by decide), hb 15 (by decide), hb 16 (by decide), hb 17 (by decide), hb 18 (by decide), hb 19 (by decide), hb 20 (by decide), hb 21 (by decide), hb 22 (by decide), hb 23 (by decide), hb 24 (by decide), hb 25 (by decide), hb 26 (by decide)]
  rfl
theorem fX1_index : zRef cX 3 1 1 11 := fun h => ⟨_, rfl, rfl⟩
theorem aX1_index : zArr cX 11 0 1024 := by
  refine fun h => ⟨rfl, fun f h' hf hb hs => ?_⟩
  have ef : f = fun j : Nat => iI (ga h' 11 (j : Int)) := funext hf
  subst ef
  unfold cX
  simp only [hs, hb 7 (by decide), hb 8 (by decide), hb 9 (by decide), hb 10 (by decide), hb 12 (by decide), hb 13 (by decide), hb 14 (by decide), hb 15 (by decide), hb 16 (by decide), hb 17 (by decide), hb 18 (by decide), hb 19 (by decide), hb 20 (by decide), hb 21 (by decide), hb 22 (by decide), hb 23 (by decide), hb 24 (by decide), hb 25 (by decide), hb 26 (by decide)]
  rfl
theorem fX1_group : zRef cX 3 1 2 12 := fun h => ⟨_, rfl, rfl⟩
theorem aX1_group : zArr cX 12 0 1024 := by
  refine fun h => ⟨rfl, fun f h' hf hb hs => ?_⟩
  have ef : f = fun j : Nat => iI (ga h' 12 (j : Int)) := funext hf
  subst ef
  unfold cX
  simp only [hs, hb 7 (by decide), hb 8 (by decide), hb 9 (by decide), hb 10 (by decide), hb 11 (by decide), hb 13 (by decide), hb 14 (by decide), hb 15 (by decide), hb 16 (by decide), hb 17 (by decide), hb 18 (by decide), hb 19 (by decide), hb 20 (by decide), hb 21 (by decide), hb 22 (by decide), hb 23 (by decide), hb 24 (by decide), hb 25 (by decide), hb 26 (by decide)]
  rfl
theorem fX1_version : zRef cX 3 1 3 13 := fun h => ⟨_, rfl, rfl⟩
theorem aX1_version : zArr cX 13 0 1024 := by
  refine fun h => ⟨rfl, fun f h' hf hb hs => ?_⟩
  have ef : f = fun j : Nat => iI (ga h' 13 (j : Int)) := funext hf
  subst ef
  unfold cX
  simp only [hs, hb 7 (by decide), hb 8 (by decide), hb 9 (by decide), hb 10 (by decide), hb 11 (by decide), hb 12 (by decide), hb 14 (by decide), hb 15 (by decide), hb 16 (by decide), hb 17 (by decide), hb 18 (by decide), hb 19 (by decide), hb 20 (by decide), hb 21 (by decide), hb 22 (by decide), hb 23 (by decide), hb 24 (by decide), hb 25 (by decide), hb 26 (by decide)]
  rfl
theorem fX1_sequence : zRef cX 3 1 4 14 := fun h => ⟨_, rfl, rfl⟩
theorem aX1_sequence : zArr cX 14 0 1024 := by
  refine fun h => ⟨rfl, fun f h' hf hb hs => ?_⟩
  have ef : f = fun j : Nat => iI (ga h' 14 (j : Int)) := funext hf
  subst ef
  unfold cX
  simp only [hs, hb 7 (by decide), hb 8 (by decide), hb 9 (by decide), hb 10 (by decide), hb 11 (by decide), hb 12 (by decide), hb 13 (by decide), hb 15 (by decide), hb 16 (by decide), hb 17 (by decide), hb 18 (by decide), hb 19 (by decide), hb 20 (by decide), hb 21 (by decide), hb 22 (by decide), hb 23 (by decide), hb 24 (by decide), hb 25 (by decide), hb 26 (by decide)]
  rfl
theorem fX1_value : zRef cX 3 1 5 15 := fun h => ⟨_, rfl, rfl⟩
theorem aX1_value : zArr cX 15 0 1024 := by
  refine fun h => ⟨rfl, fun f h' hf hb hs => ?_⟩
  have ef : f = fun j : Nat => iI (ga h' 15 (j : Int)) := funext hf
  subst ef
  unfold cX
  simp only [hs, hb 7 (by decide), hb 8 (by decide), hb 9 (by decide), hb 10 (by decide), hb 11 (by decide), hb 12 (by decide), hb 13 (by decide), hb 14 (by decide), hb 16 (by decide), hb 17 (by decide), hb 18 (by decide), hb 19 (by decide), hb 20 (by decide), hb 21 (by decide), hb 22 (by decide), hb 23 (by decide), hb 24 (by decide), hb 25 (by decide), hb 26 (by decide)]
  rfl
theorem fX1_mapped : zRef cX 3 1 6 16 := fun h => ⟨_, rfl, rfl⟩
theorem aX1_mapped : zArr cX 16 0 8192 := by
  refine fun h => ⟨rfl, fun f h' hf hb hs => ?_⟩
  have ef : f = fun j : Nat => iI (ga h' 16 (j : Int)) := funext hf
  subst ef
  unfold cX
  simp only [hs, hb 7 (by decide), hb 8 (by decide), hb 9 (by decide), hb 10 (by decide), hb 11 (by decide), hb 12 (by decide), hb 13 (by decide), hb 14 (by decide), hb 15 (by decide), hb 17 (by decide), hb 18 (by decide), hb 19 (by decide), hb 20 (by decide), hb 21 (by decide), hb 22 (by decide), hb 23 (by decide), hb 24 (by decide), hb 25 (by decide), hb 26 (by decide)]
  rfl
theorem fX1_copied : zRef cX 3 1 7 17 := fun h => ⟨_, rfl, rfl⟩
theorem aX1_copied : zArr cX 17 1 1024 := by
  refine fun h => ⟨rfl, fun f h' hf hb hs => ?_⟩
  have ef : f = fun j : Nat => iI (ga h' 17 (j : Int)) := funext hf
  subst ef
  unfold cX
  simp only [hs, hb 7 (by decide), hb 8 (by decide), hb 9 (by decide), hb 10 (by decide), hb 11 (by decide), hb 12 (by decide), hb 13 (by decide), hb 14 (by decide), hb 15 (by decide), hb 16 (by decide), hb 18 (by decide), hb 19 (by decide), hb 20 (by decide), hb 21 (by decide), hb 22 (by decide), hb 23 (by decide), hb 24 (by decide), hb 25 (by decide), hb 26 (by decide)]
  rfl
theorem fX1_used : zRef cX 3 1 8 18 := fun h => ⟨_, rfl, rfl⟩
theorem aX1_used : zArr cX 18 0 32 := by
  refine fun h => ⟨rfl, fun f h' hf hb hs => ?_⟩
  have ef : f = fun j : Nat => iI (ga h' 18 (j : Int)) := funext hf
  subst ef
  unfold cX
  simp only [hs, hb 7 (by decide), hb 8 (by decide), hb 9 (by decide), hb 10 (by decide), hb 11 (by decide), hb 12 (by decide), hb 13 (by decide), hb 14 (by decide), hb 15 (by decide), hb 16 (by decide), hb 17 (by decide), hb 19 (by decide), hb 20 (by decide), hb 21 (by decide), hb 22 (by decide), hb 23 (by decide), hb 24 (by decide), hb 25 (by decide), hb 26 (by decide)]
  rfl
theorem fX1_wear : zRef cX 3 1 9 19 := fun h => ⟨_, rfl, rfl⟩
theorem aX1_wear : zArr cX 19 0 32 := by
  refine fun h => ⟨rfl, fun f h' hf hb hs => ?_⟩
  have ef : f = fun j : Nat => iI (ga h' 19 (j : Int)) := funext hf
  subst ef
  unfold cX
  simp only [hs, hb 7 (by decide), hb 8 (by decide), hb 9 (by decide), hb 10 (by decide), hb 11 (by decide), hb 12 (by decide), hb 13 (by decide), hb 14 (by decide), hb 15 (by decide), hb 16 (by decide), hb 17 (by decide), hb 18 (by decide), hb 20 (by decide), hb 21 (by decide), hb 22 (by decide), hb 23 (by decide), hb 24 (by decide), hb 25 (by decide), hb 26 (by decide)]
  rfl
theorem fX1_blockCount : zFld cX 3 1 10 70 := fun h => ⟨_, rfl, rfl, Nat.le_of_ble_eq_true rfl, fun v => rfl⟩
theorem fX1_blockSize : zFld cX 3 1 11 71 := fun h => ⟨_, rfl, rfl, Nat.le_of_ble_eq_true rfl, fun v => rfl⟩
theorem fX1_placeCount : zFld cX 3 1 12 72 := fun h => ⟨_, rfl, rfl, Nat.le_of_ble_eq_true rfl, fun v => rfl⟩
theorem fX1_lastSequence : zFld cX 3 1 13 73 := fun h => ⟨_, rfl, rfl, Nat.le_of_ble_eq_true rfl, fun v => rfl⟩
theorem fX1_programCount : zFld cX 3 1 14 74 := fun h => ⟨_, rfl, rfl, Nat.le_of_ble_eq_true rfl, fun v => rfl⟩
theorem fX1_eraseCount : zFld cX 3 1 15 75 := fun h => ⟨_, rfl, rfl, Nat.le_of_ble_eq_true rfl, fun v => rfl⟩
theorem fX1_copyCount : zFld cX 3 1 16 76 := fun h => ⟨_, rfl, rfl, Nat.le_of_ble_eq_true rfl, fun v => rfl⟩
theorem fX1_armed : zFld cX 3 1 17 77 := fun h => ⟨_, rfl, rfl, Nat.le_of_ble_eq_true rfl, fun v => rfl⟩
theorem fX3_states : zRef cX 4 3 0 20 := fun h => ⟨_, rfl, rfl⟩
theorem aX3_states : zArr cX 20 0 1001 := by
  refine fun h => ⟨rfl, fun f h' hf hb hs => ?_⟩
  have ef : f = fun j : Nat => iI (ga h' 20 (j : Int)) := funext hf
  subst ef
  unfold cX
  simp only [hs, hb 7 (by decide), hb 8 (by decide), hb 9 (by decide), hb 10 (by decide), hb 11 (by decide), hb 12 (by decide), hb 13 (by decide), hb 14 (by decide), hb 15 (by decide), hb 16 (by decide), hb 17 (by decide), hb 18 (by decide), hb 19 (by decide), hb 21 (by decide), hb 22 (by decide), hb 23 (by decide), hb 24 (by decide), hb 25 (by decide), hb 26 (by decide)]
  rfl
theorem fX3_begun : zFld cX 4 3 1 81 := fun h => ⟨_, rfl, rfl, Nat.le_of_ble_eq_true rfl, fun v => rfl⟩
theorem fX4_committed : zRef cX 5 4 0 21 := fun h => ⟨_, rfl, rfl⟩
theorem aX4_committed : zArr cX 21 0 64 := by
  refine fun h => ⟨rfl, fun f h' hf hb hs => ?_⟩
  have ef : f = fun j : Nat => iI (ga h' 21 (j : Int)) := funext hf
  subst ef
  unfold cX
  simp only [hs, hb 7 (by decide), hb 8 (by decide), hb 9 (by decide), hb 10 (by decide), hb 11 (by decide), hb 12 (by decide), hb 13 (by decide), hb 14 (by decide), hb 15 (by decide), hb 16 (by decide), hb 17 (by decide), hb 18 (by decide), hb 19 (by decide), hb 20 (by decide), hb 22 (by decide), hb 23 (by decide), hb 24 (by decide), hb 25 (by decide), hb 26 (by decide)]
  rfl
theorem fX4_shadows : zRef cX 5 4 1 22 := fun h => ⟨_, rfl, rfl⟩
theorem aX4_shadows : zArr cX 22 0 64 := by
  refine fun h => ⟨rfl, fun f h' hf hb hs => ?_⟩
  have ef : f = fun j : Nat => iI (ga h' 22 (j : Int)) := funext hf
  subst ef
  unfold cX
  simp only [hs, hb 7 (by decide), hb 8 (by decide), hb 9 (by decide), hb 10 (by decide), hb 11 (by decide), hb 12 (by decide), hb 13 (by decide), hb 14 (by decide), hb 15 (by decide), hb 16 (by decide), hb 17 (by decide), hb 18 (by decide), hb 19 (by decide), hb 20 (by decide), hb 21 (by decide), hb 23 (by decide), hb 24 (by decide), hb 25 (by decide), hb 26 (by decide)]
  rfl
theorem fX4_owners : zRef cX 5 4 2 23 := fun h => ⟨_, rfl, rfl⟩
theorem aX4_owners : zArr cX 23 0 64 := by
  refine fun h => ⟨rfl, fun f h' hf hb hs => ?_⟩
  have ef : f = fun j : Nat => iI (ga h' 23 (j : Int)) := funext hf
  subst ef
  unfold cX
  simp only [hs, hb 7 (by decide), hb 8 (by decide), hb 9 (by decide), hb 10 (by decide), hb 11 (by decide), hb 12 (by decide), hb 13 (by decide), hb 14 (by decide), hb 15 (by decide), hb 16 (by decide), hb 17 (by decide), hb 18 (by decide), hb 19 (by decide), hb 20 (by decide), hb 21 (by decide), hb 22 (by decide), hb 24 (by decide), hb 25 (by decide), hb 26 (by decide)]
  rfl
theorem fX4_kept : zRef cX 5 4 3 24 := fun h => ⟨_, rfl, rfl⟩
theorem aX4_kept : zArr cX 24 0 256 := by
  refine fun h => ⟨rfl, fun f h' hf hb hs => ?_⟩
  have ef : f = fun j : Nat => iI (ga h' 24 (j : Int)) := funext hf
  subst ef
  unfold cX
  simp only [hs, hb 7 (by decide), hb 8 (by decide), hb 9 (by decide), hb 10 (by decide), hb 11 (by decide), hb 12 (by decide), hb 13 (by decide), hb 14 (by decide), hb 15 (by decide), hb 16 (by decide), hb 17 (by decide), hb 18 (by decide), hb 19 (by decide), hb 20 (by decide), hb 21 (by decide), hb 22 (by decide), hb 23 (by decide), hb 25 (by decide), hb 26 (by decide)]
  rfl
theorem fX4_pages : zFld cX 5 4 4 104 := fun h => ⟨_, rfl, rfl, Nat.le_of_ble_eq_true rfl, fun v => rfl⟩
theorem fX4_parts : zFld cX 5 4 5 105 := fun h => ⟨_, rfl, rfl, Nat.le_of_ble_eq_true rfl, fun v => rfl⟩
theorem fX4_readerBits : zFld cX 5 4 6 106 := fun h => ⟨_, rfl, rfl, Nat.le_of_ble_eq_true rfl, fun v => rfl⟩
theorem fX5_log : zRef cX 6 5 0 25 := fun h => ⟨_, rfl, rfl⟩
theorem aX5_log : zArr cX 25 0 1024 := by
  refine fun h => ⟨rfl, fun f h' hf hb hs => ?_⟩
  have ef : f = fun j : Nat => iI (ga h' 25 (j : Int)) := funext hf
  subst ef
  unfold cX
  simp only [hs, hb 7 (by decide), hb 8 (by decide), hb 9 (by decide), hb 10 (by decide), hb 11 (by decide), hb 12 (by decide), hb 13 (by decide), hb 14 (by decide), hb 15 (by decide), hb 16 (by decide), hb 17 (by decide), hb 18 (by decide), hb 19 (by decide), hb 20 (by decide), hb 21 (by decide), hb 22 (by decide), hb 23 (by decide), hb 24 (by decide), hb 26 (by decide)]
  rfl
theorem fX5_newest : zRef cX 6 5 1 26 := fun h => ⟨_, rfl, rfl⟩
theorem aX5_newest : zArr cX 26 0 64 := by
  refine fun h => ⟨rfl, fun f h' hf hb hs => ?_⟩
  have ef : f = fun j : Nat => iI (ga h' 26 (j : Int)) := funext hf
  subst ef
  unfold cX
  simp only [hs, hb 7 (by decide), hb 8 (by decide), hb 9 (by decide), hb 10 (by decide), hb 11 (by decide), hb 12 (by decide), hb 13 (by decide), hb 14 (by decide), hb 15 (by decide), hb 16 (by decide), hb 17 (by decide), hb 18 (by decide), hb 19 (by decide), hb 20 (by decide), hb 21 (by decide), hb 22 (by decide), hb 23 (by decide), hb 24 (by decide), hb 25 (by decide)]
  rfl
theorem fX5_size : zFld cX 6 5 2 122 := fun h => ⟨_, rfl, rfl, Nat.le_of_ble_eq_true rfl, fun v => rfl⟩
