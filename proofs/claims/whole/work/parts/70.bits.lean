/-! The bits of a long. -/
def lb (x : Int64) (c : Nat) : Bool := x.toBitVec.getLsbD c
def ib (x : Int32) (c : Nat) : Bool := x.toBitVec.getLsbD c
theorem lb_ext {x y : Int64} (h : ∀ c, c < 64 → lb x c = lb y c) : x = y := by
  apply Int64.toBitVec_inj.mp
  apply BitVec.eq_of_getLsbD_eq
  intro i hi
  exact h i hi
theorem ib_ext {x y : Int32} (h : ∀ c, c < 32 → ib x c = ib y c) : x = y := by
  apply Int32.toBitVec_inj.mp
  apply BitVec.eq_of_getLsbD_eq
  intro i hi
  exact h i hi
theorem lb_hi (x : Int64) {c : Nat} (hc : 64 ≤ c) : lb x c = false := BitVec.getLsbD_of_ge _ _ hc
theorem ib_hi (x : Int32) {c : Nat} (hc : 32 ≤ c) : ib x c = false := BitVec.getLsbD_of_ge _ _ hc
theorem lb_and (x y : Int64) (c : Nat) : lb (x &&& y) c = (lb x c && lb y c) := by
  unfold lb
  rw [Int64.toBitVec_and, BitVec.getLsbD_and]
theorem lb_or (x y : Int64) (c : Nat) : lb (x ||| y) c = (lb x c || lb y c) := by
  unfold lb
  rw [Int64.toBitVec_or, BitVec.getLsbD_or]
theorem lb_xor (x y : Int64) (c : Nat) : lb (x ^^^ y) c = (lb x c ^^ lb y c) := by
  unfold lb
  rw [Int64.toBitVec_xor, BitVec.getLsbD_xor]
theorem ib_and (x y : Int32) (c : Nat) : ib (x &&& y) c = (ib x c && ib y c) := by
  unfold ib
  rw [Int32.toBitVec_and, BitVec.getLsbD_and]
theorem lb_m1 {c : Nat} (hc : c < 64) : lb (-1) c = true := by
  have : ∀ c : Fin 64, lb (-1) c.1 = true := by decide +kernel
  exact this ⟨c, hc⟩
theorem lb_0 (c : Nat) : lb 0 c = false := by
  unfold lb
  show (0#64).getLsbD c = false
  simp
theorem sh_key : ∀ o : Fin 64, (((nI o.1).toInt64 &&& 63).toBitVec.smod 64) = BitVec.ofNat 64 o.1 := by decide +kernel
theorem sh_key2 : ∀ o : Fin 64, (((nI o.1).toInt64.toUInt64 &&& Int64.toUInt64 63).toBitVec % 64) = BitVec.ofNat 64 o.1 := by decide +kernel
theorem lb_shl (x : Int64) {o : Nat} (ho : o < 64) (c : Nat) : lb (x <<< ((nI o).toInt64 &&& 63)) c = (decide (c < 64) && !decide (c < o) && lb x (c - o)) := by
  unfold lb
  rw [Int64.toBitVec_shiftLeft, sh_key ⟨o, ho⟩, BitVec.shiftLeft_eq', BitVec.getLsbD_shiftLeft]
  simp [Nat.mod_eq_of_lt (show o < 2 ^ 64 by omega)]
theorem lb_shr (x : Int64) {o : Nat} (ho : o < 64) (c : Nat) : lb ((x.toUInt64 >>> ((nI o).toInt64.toUInt64 &&& Int64.toUInt64 63)).toInt64) c = lb x (o + c) := by
  unfold lb
  show (x.toUInt64 >>> ((nI o).toInt64.toUInt64 &&& Int64.toUInt64 63)).toBitVec.getLsbD c = _
  rw [UInt64.toBitVec_shiftRight, sh_key2 ⟨o, ho⟩, BitVec.ushiftRight_eq', BitVec.getLsbD_ushiftRight]
  simp [Nat.mod_eq_of_lt (show o < 2 ^ 64 by omega)]
theorem lb_int (v : Int32) {c : Nat} (hc : c < 32) : lb v.toInt64 c = ib v c := by
  unfold lb ib
  rw [Int32.toBitVec_toInt64, BitVec.getLsbD_signExtend]
  simp [hc, show c < 64 by omega]
theorem ib_int (x : Int64) {c : Nat} (hc : c < 32) : ib x.toInt32 c = lb x c := by
  unfold lb ib
  rw [Int64.toBitVec_toInt32, BitVec.getLsbD_signExtend]
  simp [hc, show c < 64 by omega]
theorem lb_mst : ∀ w : Fin 17, ∀ c : Fin 64, lb (mst (nI w.1)) c.1 = decide (c.1 < w.1) := by decide +kernel
theorem lb_mst' {w : Nat} (hw : w ≤ 16) (c : Nat) : lb (mst (nI w)) c = decide (c < w) := by
  by_cases hc : c < 64
  · exact lb_mst ⟨w, by omega⟩ ⟨c, hc⟩
  · rw [lb_hi _ (by omega), decide_eq_false (by omega)]
theorem lb_bts {o w : Nat} (hw : w ≤ 16) (ho : o + w ≤ 64) (h1 : 1 ≤ w) (c : Nat) : lb (bts (nI o) (nI w)) c = (decide (o ≤ c) && decide (c < o + w)) := by
  unfold bts
  rw [lb_shl _ (by omega), lb_mst' hw]
  by_cases h1 : o ≤ c <;> by_cases h2 : c < o + w
  · simp [h1, h2, show c < 64 by omega, show ¬ c < o by omega, show c - o < w by omega]
  · simp [h2, show ¬ c - o < w by omega]
  · simp [h1, show c < o by omega]
  · simp [h1, show c < o by omega]
