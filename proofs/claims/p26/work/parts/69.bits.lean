/-! bits (the family out of the kit, as pasted), and what the marks and sets need -/
def bt (x : Int32) (i : Nat) : Bool := x.toBitVec.getLsbD i
theorem b_ext {x y : Int32} (h : ∀ i, i < 32 → bt x i = bt y i) : x = y := Int32.toBitVec_inj.mp (BitVec.eq_of_getLsbD_eq (fun i hi => h i hi))
theorem b_or (x y : Int32) (i : Nat) : bt (x ||| y) i = (bt x i || bt y i) := by unfold bt; rw [Int32.toBitVec_or, BitVec.getLsbD_or]
theorem b_and (x y : Int32) (i : Nat) : bt (x &&& y) i = (bt x i && bt y i) := by unfold bt; rw [Int32.toBitVec_and, BitVec.getLsbD_and]
theorem b_xor (x y : Int32) (i : Nat) : bt (x ^^^ y) i = (bt x i ^^ bt y i) := by unfold bt; rw [Int32.toBitVec_xor, BitVec.getLsbD_xor]
theorem b_big {x : Int32} {i : Nat} (h : 32 ≤ i) : bt x i = false := BitVec.getLsbD_of_ge _ _ h
theorem b_m1 : ∀ i, i < 32 → bt (-1) i = true := by decide +kernel
theorem b_0 (i : Nat) : bt 0 i = false := BitVec.getLsbD_zero
theorem s_l : ∀ n, n < 32 → ((nI n &&& 31).toBitVec.smod 32).toNat = n := by decide +kernel
theorem s_u : ∀ n, n < 32 → (((nI n).toUInt32 &&& Int32.toUInt32 31).toBitVec % 32).toNat = n := by decide +kernel
theorem b_shl (n : Nat) (hn : n < 32) (x : Int32) {i : Nat} (hi : i < 32) : bt (x <<< (nI n &&& 31)) i = (decide (n ≤ i) && bt x (i - n)) := by
  unfold bt
  rw [Int32.toBitVec_shiftLeft]
  show (x.toBitVec <<< ((nI n &&& 31).toBitVec.smod 32).toNat).getLsbD i = _
  rw [s_l n hn, BitVec.getLsbD_shiftLeft]
  rcases Nat.lt_or_ge i n with h | h
  · simp [h, Nat.not_le.mpr h]
  · simp [hi, h, Nat.not_lt.mpr h]
theorem b_ushr (n : Nat) (hn : n < 32) (x : Int32) (i : Nat) : bt ((x.toUInt32 >>> ((nI n).toUInt32 &&& Int32.toUInt32 31)).toInt32) i = bt x (n + i) := by
  show (x.toUInt32 >>> ((nI n).toUInt32 &&& Int32.toUInt32 31)).toBitVec.getLsbD i = x.toUInt32.toBitVec.getLsbD (n + i)
  rw [UInt32.toBitVec_shiftRight]
  show (x.toUInt32.toBitVec >>> (((nI n).toUInt32 &&& Int32.toUInt32 31).toBitVec % 32).toNat).getLsbD i = _
  rw [s_u n hn, BitVec.getLsbD_ushiftRight]
theorem b_sshr (n : Nat) (hn : n < 32) (x : Int32) {i : Nat} (hi : i < 32) : bt (x >>> (nI n &&& 31)) i = if n + i < 32 then bt x (n + i) else bt x 31 := by
  unfold bt
  rw [Int32.toBitVec_shiftRight]
  show (x.toBitVec.sshiftRight ((nI n &&& 31).toBitVec.smod 32).toNat).getLsbD i = _
  rw [s_l n hn, BitVec.getLsbD_sshiftRight, BitVec.msb_eq_getLsbD_last]
  simp [hi]
theorem b_one : ∀ i, i < 32 → bt (nI 1) i = decide (i = 0) := by decide +kernel
theorem b_pow {s i : Nat} (hs : s < 32) (hi : i < 32) : bt ((nI 1) <<< (nI s &&& 31)) i = decide (i = s) := by
  rw [b_shl s hs _ hi]
  by_cases h : s ≤ i
  · rw [b_one (i - s) (by omega), decide_eq_true h, Bool.true_and]
    by_cases e : i = s
    · rw [decide_eq_true e, decide_eq_true (by omega)]
    · rw [decide_eq_false e, decide_eq_false (by omega)]
  · rw [decide_eq_false h, Bool.false_and, decide_eq_false (by omega)]
theorem b_clr {s i : Nat} (x : Int32) (hs : s < 32) (hi : i < 32) : bt (x &&& (((nI 1) <<< (nI s &&& 31)) ^^^ (-1))) i = (bt x i && !decide (i = s)) := by
  rw [b_and, b_xor, b_pow hs hi, b_m1 i hi, Bool.xor_true]
theorem b_set {s i : Nat} (x : Int32) (hs : s < 32) (hi : i < 32) : bt (x ||| ((nI 1) <<< (nI s &&& 31))) i = (bt x i || decide (i = s)) := by
  rw [b_or, b_pow hs hi]
theorem b_test {f : Nat} (x : Int32) (hf : f < 32) : (x >>> (nI f &&& 31)) &&& nI 1 = 0 ↔ bt x f = false := by
  have h0 : bt ((x >>> (nI f &&& 31)) &&& nI 1) 0 = bt x f := by
    rw [b_and, b_sshr f hf x (by omega), b_one 0 (by omega), if_pos (by omega)]
    simp
  refine ⟨fun h => ?_, fun h => b_ext fun i hi => ?_⟩
  · rw [← h0, h, b_0]
  · by_cases e : i = 0
    · subst e
      rw [h0, h, b_0]
    · rw [b_and, b_one i hi, decide_eq_false e, Bool.and_false, b_0]
theorem b_testu {f : Nat} (x : Int32) (hf : f < 32) : ((x.toUInt32 >>> ((nI f).toUInt32 &&& Int32.toUInt32 31)).toInt32) &&& nI 1 = 0 ↔ bt x f = false := by
  have h0 : bt (((x.toUInt32 >>> ((nI f).toUInt32 &&& Int32.toUInt32 31)).toInt32) &&& nI 1) 0 = bt x f := by
    rw [b_and, b_ushr f hf x 0, b_one 0 (by omega)]
    simp
  refine ⟨fun h => ?_, fun h => b_ext fun i hi => ?_⟩
  · rw [← h0, h, b_0]
  · by_cases e : i = 0
    · subst e
      rw [h0, h, b_0]
    · rw [b_and, b_one i hi, decide_eq_false e, Bool.and_false, b_0]
