/-! bytes of an int: the two sides cut them alike -/
theorem and255 (a : BitVec 32) : (a &&& 255#32).toNat ≤ 255 := by
  rw [BitVec.toNat_and]
  exact Nat.and_le_right
theorem toInt_255 (a : BitVec 32) : (a &&& 255#32).toInt = ((a &&& 255#32).toNat : Int) := by
  have q := and255 a
  rw [BitVec.toInt_eq_toNat_cond, if_pos (by omega)]
theorem shr_eq (x : BitVec 32) (n : Nat) (h : n ≤ 24) : (x >>> n) &&& 255#32 = (x.sshiftRight n) &&& 255#32 := by
  apply BitVec.eq_of_getLsbD_eq
  intro i hi
  rw [BitVec.getLsbD_and, BitVec.getLsbD_and, BitVec.getLsbD_ushiftRight, BitVec.getLsbD_sshiftRight]
  by_cases c : i < 8
  · have e1 : (decide (32 ≤ i)) = false := by simp; omega
    rw [e1, Bool.not_false, Bool.true_and, if_pos (by omega)]
  · have e : (255#32).getLsbD i = false := by
      have : ∀ j : Fin 32, 8 ≤ j.val → (255#32).getLsbD j.val = false := by decide +kernel
      exact this ⟨i, hi⟩ (by show 8 ≤ i; omega)
    rw [e, Bool.and_false, Bool.and_false]
theorem sh_m (s : Int) (h : s = 24 ∨ s = 16 ∨ s = 8 ∨ s = 0) (x : Int32) : ((x >>> (iI s &&& 31)) &&& iI 255).toInt = ((x.toBitVec.sshiftRight s.toNat) &&& 255#32).toInt := by
  rcases h with h | h | h | h <;> subst h <;> rfl
theorem sh_x (s : Int) (h : s = 24 ∨ s = 16 ∨ s = 8 ∨ s = 0) (x : Int32) : (((x.toUInt32 >>> ((iI s).toUInt32 &&& Int32.toUInt32 31)).toInt32) &&& iI 255).toInt = ((x.toBitVec >>> s.toNat) &&& 255#32).toInt := by
  rcases h with h | h | h | h <;> subst h <;> rfl
theorem bv_eq (v s : Int) (h : s = 24 ∨ s = 16 ∨ s = 8 ∨ s = 0) : bvx v s = bv v s ∧ 0 ≤ bv v s := by
  unfold bv bvx
  rw [sh_m s h, sh_x s h, shr_eq _ _ (by omega)]
  refine ⟨rfl, ?_⟩
  rw [toInt_255]
  omega

