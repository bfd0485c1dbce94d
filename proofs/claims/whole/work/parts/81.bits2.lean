theorem sh32 : ∀ o : Fin 32, ((nI o.1 &&& 31).toBitVec.smod 32) = BitVec.ofNat 32 o.1 := by decide +kernel
theorem ib_1 : ∀ c : Fin 32, ib 1 c.1 = decide (c.1 = 0) := by decide +kernel
theorem ib_0 (c : Nat) : ib 0 c = false := by
  unfold ib
  show (0#32).getLsbD c = false
  simp
theorem ib_shr (x : Int32) {i : Nat} (hi : i < 32) (c : Nat) (hc : i + c < 32) : ib (x >>> (nI i &&& 31)) c = ib x (i + c) := by
  unfold ib
  rw [Int32.toBitVec_shiftRight, sh32 ⟨i, hi⟩, BitVec.sshiftRight_eq', BitVec.getLsbD_sshiftRight]
  simp [Nat.mod_eq_of_lt (show i < 2 ^ 32 by omega), show c < 32 by omega, hc]
theorem and1_0 (y : Int32) : y &&& 1 = 0 ↔ ib y 0 = false := by
  constructor
  · intro e
    have : ib (y &&& 1) 0 = ib 0 0 := by rw [e]
    rw [ib_and, ib_0, show ib 1 0 = true from ib_1 0, Bool.and_true] at this
    exact this
  · intro e
    apply ib_ext
    intro c hc
    rw [ib_and, ib_0, ib_1 ⟨c, hc⟩]
    by_cases h : c = 0
    · subst h; rw [e]; rfl
    · simp [h]
theorem bitI (x : Int32) {i : Nat} (hi : i < 32) : ((x >>> (nI i &&& 31)) &&& 1 = 0) ↔ ib x i = false := by
  rw [and1_0, ib_shr x hi 0 (by omega), Nat.add_zero]
theorem ib_nI {m : Nat} (hm : m < 2 ^ 32) (c : Nat) : ib (nI m) c = m.testBit c := by
  unfold ib
  show (BitVec.ofNat 32 m).getLsbD c = _
  rw [BitVec.getLsbD_ofNat]
  by_cases h : c < 32
  · simp [h]
  · rw [Nat.testBit_lt_two_pow (Nat.lt_of_lt_of_le hm (Nat.pow_le_pow_right (by decide) (by omega)))]
    simp
theorem clr8 : ∀ m : Fin 256, ∀ p : Fin 8, m.1.testBit p.1 = true → 2 ^ p.1 ≤ m.1 ∧ ∀ r : Fin 8, (m.1 - 2 ^ p.1).testBit r.1 = (m.1.testBit r.1 && !decide (r = p)) := by decide +kernel
theorem shl1 : ∀ p : Fin 8, (1 : Int32) <<< (nI p.1 &&& 31) = nI (2 ^ p.1) := by decide +kernel
theorem sf_rem8 {a : Nat} (ha : a < 2 ^ 30) : sf_rem (nI a) 8 = nI (a % 8) := by
  unfold sf_rem
  rw [nI_8]
  exact pk_rem (by omega) (by decide) (by decide)
theorem div8 {a : Nat} (ha : a < 2 ^ 30) : nI a / 8 = nI (a / 8) := by
  rw [nI_8]
  exact pk_div (by omega) (by decide) (by decide)
/-- one signal laid into a byte -/
theorem sf_in_bits {s : se_S} {j o w b m : Nat} (e8 : s.2 8 j = nI o) (hw : w ≤ 16) (how : o + w ≤ 64) (hb : b < 8) (hm : m < 256) (hone : ∀ r, r < 8 → o ≤ 8 * b + r → 8 * b + r < o + w → m.testBit r = true) : ∀ i, i ≤ w → ∃ m', m' < 256 ∧ sf_in s (nI b) j (nI m) i = nI m' ∧ ∀ r, r < 8 → (m'.testBit r = true ↔ (m.testBit r = true ∧ ¬ (o ≤ 8 * b + r ∧ 8 * b + r < o + i ∧ ib (s.2 10 j) (8 * b + r - o) = false))) := by
  intro i
  induction i with
  | zero =>
    intro _
    refine ⟨m, hm, rfl, fun r hr => ?_⟩
    constructor
    · intro z
      exact ⟨z, fun q => by omega⟩
    · exact fun z => z.1
  | succ i ih =>
    intro hi
    obtain ⟨m', hm', em, hbits⟩ := ih (by omega)
    unfold sf_in
    rw [em, e8, nI_add, div8 (by omega), sf_rem8 (by omega)]
    by_cases hbb : nI ((o + i) / 8) = nI b
    · rw [if_pos hbb]
      have hbb := (nI_eq (by omega) (by omega)).mp hbb
      by_cases hz : ((s.2 10 j) >>> (nI i &&& 31)) &&& 1 = 0
      · rw [if_pos hz]
        have hz := (bitI _ (by omega)).mp hz
        have hp : (o + i) % 8 < 8 := Nat.mod_lt _ (by decide)
        have hset : m'.testBit ((o + i) % 8) = true := (hbits _ hp).mpr ⟨hone _ hp (by omega) (by omega), fun q => by omega⟩
        obtain ⟨h1, h2⟩ := clr8 ⟨m', hm'⟩ ⟨(o + i) % 8, hp⟩ hset
        have h1 : 2 ^ ((o + i) % 8) ≤ m' := h1
        refine ⟨m' - 2 ^ ((o + i) % 8), Nat.lt_of_le_of_lt (Nat.sub_le _ _) hm', ?_, fun r hr => ?_⟩
        · rw [shl1 ⟨(o + i) % 8, hp⟩]
          exact pk_sub h1
        · have h2 := h2 ⟨r, hr⟩
          have h2 : (m' - 2 ^ ((o + i) % 8)).testBit r = (m'.testBit r && !decide ((⟨r, hr⟩ : Fin 8) = ⟨(o + i) % 8, hp⟩)) := h2
          rw [h2, Bool.and_eq_true, hbits r hr]
          simp only [Fin.mk.injEq, Bool.not_eq_true', decide_eq_false_iff_not]
          constructor
          · rintro ⟨⟨z1, z2⟩, z3⟩
            refine ⟨z1, fun ⟨q1, q2, q3⟩ => ?_⟩
            exact z2 ⟨q1, by omega, q3⟩
          · rintro ⟨z1, z2⟩
            refine ⟨⟨z1, fun ⟨q1, q2, q3⟩ => z2 ⟨q1, by omega, q3⟩⟩, fun z => z2 ⟨by omega, by omega, ?_⟩⟩
            rw [show 8 * b + r - o = i by omega]
            exact hz
      · rw [if_neg hz]
        refine ⟨m', hm', rfl, fun r hr => ?_⟩
        rw [hbits r hr]
        have hz : ¬ ib (s.2 10 j) i = false := fun z => hz ((bitI _ (by omega)).mpr z)
        constructor
        · rintro ⟨z1, z2⟩
          refine ⟨z1, fun ⟨q1, q2, q3⟩ => ?_⟩
          by_cases hri : 8 * b + r = o + i
          · rw [hri, show o + i - o = i by omega] at q3
            exact hz q3
          · exact z2 ⟨q1, by omega, q3⟩
        · rintro ⟨z1, z2⟩
          exact ⟨z1, fun ⟨q1, q2, q3⟩ => z2 ⟨q1, by omega, q3⟩⟩
    · rw [if_neg hbb]
      have hbb : ¬ (o + i) / 8 = b := fun z => hbb (by rw [z])
      refine ⟨m', hm', rfl, fun r hr => ?_⟩
      rw [hbits r hr]
      constructor
      · rintro ⟨z1, z2⟩
        refine ⟨z1, fun ⟨q1, q2, q3⟩ => ?_⟩
        exact z2 ⟨q1, by omega, q3⟩
      · rintro ⟨z1, z2⟩
        exact ⟨z1, fun ⟨q1, q2, q3⟩ => z2 ⟨q1, by omega, q3⟩⟩
/-- one of the first n signals of frame f has a 0 at the place c -/
def zr (s : se_S) (f c n : Nat) : Prop := ∃ j, j < n ∧ s.2 7 j = nI f ∧ cvr s j c ∧ ib (s.2 10 j) (c - (s.2 8 j).toNatClampNeg) = false
theorem sf_out_bits {s : se_S} (h : GA s) (f : Nat) {b : Nat} (hb : b < 8) : ∀ n, n ≤ s.1 1 → ∃ m, m < 256 ∧ sf_out s (nI f) (nI b) n = nI m ∧ ∀ r, r < 8 → (m.testBit r = true ↔ ¬ zr s f (8 * b + r) n) := by
  intro n
  induction n with
  | zero =>
    intro _
    refine ⟨255, by decide, show (255 : Int32) = nI 255 by decide, fun r hr => ?_⟩
    have : ∀ r : Fin 8, (255 : Nat).testBit r.1 = true := by decide
    rw [this ⟨r, hr⟩]
    exact ⟨fun _ ⟨j, hj, _⟩ => by omega, fun _ => rfl⟩
  | succ n ih =>
    intro hn
    obtain ⟨m, hm, em, hbits⟩ := ih (by omega)
    obtain ⟨_, o, w, n', _, hw1, hw, _, e8, e9, _, hn8, how⟩ := h.sg n (by omega)
    have c8 : (s.2 8 n).toNatClampNeg = o := by rw [e8, nI_clamp (by omega)]
    have c9 : (s.2 9 n).toNatClampNeg = w := by rw [e9, nI_clamp (by omega)]
    unfold sf_out
    rw [em, c9]
    by_cases e7 : s.2 7 n = nI f
    · rw [if_pos e7]
      obtain ⟨m', hm', em', hb'⟩ := sf_in_bits (s := s) (j := n) (w := w) e8 hw (by omega) hb hm (fun r hr q1 q2 => (hbits r hr).mpr (fun ⟨j, hj, z7, zc, _⟩ => h.ap n j (by omega) (by omega) (by rw [e7, z7]) (by omega) (8 * b + r) ⟨by unfold cvr; rw [c8, c9]; exact ⟨q1, q2⟩, zc⟩)) w (Nat.le_refl _)
      refine ⟨m', hm', em', fun r hr => ?_⟩
      rw [hb' r hr, hbits r hr]
      constructor
      · rintro ⟨z1, z2⟩ ⟨j, hj, z7, zc, zb⟩
        by_cases ej : j = n
        · subst ej
          unfold cvr at zc
          rw [c8, c9] at zc
          rw [c8] at zb
          exact z2 ⟨zc.1, zc.2, zb⟩
        · exact z1 ⟨j, by omega, z7, zc, zb⟩
      · intro z
        refine ⟨fun ⟨j, hj, r⟩ => z ⟨j, by omega, r⟩, fun ⟨q1, q2, q3⟩ => z ⟨n, by omega, e7, by unfold cvr; rw [c8, c9]; exact ⟨q1, q2⟩, by rw [c8]; exact q3⟩⟩
    · rw [if_neg e7]
      refine ⟨m, hm, rfl, fun r hr => ?_⟩
      rw [hbits r hr]
      constructor
      · rintro z ⟨j, hj, z7, zc⟩
        by_cases ej : j = n
        · subst ej; exact e7 z7
        · exact z ⟨j, by omega, z7, zc⟩
      · rintro z ⟨j, hj, r⟩
        exact z ⟨j, by omega, r⟩
/-- byte k of a long -/
def byo (d : Int64) (k : Nat) : Int32 := ((d.toUInt64 >>> ((nI (8 * k)).toInt64.toUInt64 &&& Int64.toUInt64 63)).toInt64).toInt32 &&& 255
theorem ib_255 : ∀ c : Fin 32, ib 255 c.1 = decide (c.1 < 8) := by decide +kernel
theorem byo_eq {d : Int64} {k m : Nat} (hk : k < 8) (hm : m < 256) (h : ∀ r, r < 8 → (lb d (8 * k + r) = true ↔ m.testBit r = true)) : byo d k = nI m := by
  apply ib_ext
  intro c hc
  unfold byo
  rw [ib_and, ib_int _ hc, lb_shr _ (by omega), ib_255 ⟨c, hc⟩, ib_nI (by omega)]
  by_cases h8 : c < 8
  · rw [decide_eq_true h8, Bool.and_true]
    have := h c h8
    cases e1 : lb d (8 * k + c) <;> cases e2 : m.testBit c <;> simp [e1, e2] at this ⊢
  · rw [decide_eq_false h8, Bool.and_false]
    exact (Nat.testBit_lt_two_pow (Nat.lt_of_lt_of_le (show m < 2 ^ 8 by omega) (Nat.pow_le_pow_right (by decide) (by omega)))).symm
theorem grd_lt' : ∀ i : Fin 60, (sf_grd (nI i.1)).toNatClampNeg < 256 ∧ sf_grd (nI i.1) = nI (sf_grd (nI i.1)).toNatClampNeg ∧ sf_grd (nI i.1) &&& 63 = nI i.1 := by decide +kernel
theorem grd_lt {i : Nat} (hi : i < 60) : ∃ m, m < 256 ∧ sf_grd (nI i) = nI m := ⟨_, (grd_lt' ⟨i, hi⟩).1, (grd_lt' ⟨i, hi⟩).2.1⟩
theorem grd_inj {i j : Nat} (hi : i < 60) (hj : j < 60) (e : sf_grd (nI i) = sf_grd (nI j)) : nI i = nI j := by
  rw [← (grd_lt' ⟨i, hi⟩).2.2, ← (grd_lt' ⟨j, hj⟩).2.2]
  show sf_grd (nI i) &&& 63 = sf_grd (nI j) &&& 63
  rw [e]
/-- a frame's data, bit by bit -/
def dt (s : se_S) (d : Nat → Int64) : Prop := ∀ f, f < s.1 0 → ∀ c, c < 64 → (lb (d f) c = true ↔ ((0 < s.2 6 f ∧ c < 8) ∧ ib (sf_grd (s.2 1 f)) c = true) ∨ (¬ (0 < s.2 6 f ∧ c < 8) ∧ ¬ zr s f c (s.1 1)))
theorem sf_byte_lt {s : se_S} (h : GA s) {f b : Nat} (hf : f < s.1 0) (hb : b < 8) : ∃ m, m < 256 ∧ sf_byte s (nI f) (nI b) = nI m ∧ ∀ r, r < 8 → (m.testBit r = true ↔ ((0 < s.2 6 f ∧ 8 * b + r < 8) ∧ ib (sf_grd (s.2 1 f)) (8 * b + r) = true) ∨ (¬ (0 < s.2 6 f ∧ 8 * b + r < 8) ∧ ¬ zr s f (8 * b + r) (s.1 1))) := by
  have hcf : (nI f).toNatClampNeg = f := nI_clamp (by have := h.c0; omega)
  unfold sf_byte
  rw [hcf]
  by_cases hp : nI b = 0 ∧ 0 < s.2 6 f
  · rw [if_pos hp]
    have hb0 : b = 0 := by
      have := hp.1
      rw [← nI_0] at this
      exact (nI_eq (by omega) (by decide)).mp this
    obtain ⟨i, hi, ei⟩ := h.nm f hf
    obtain ⟨m, hm, em⟩ := grd_lt hi
    refine ⟨m, hm, by rw [ei, em], fun r hr => ?_⟩
    rw [ei, em, ib_nI (by omega), hb0, show 8 * 0 + r = r by omega]
    constructor
    · exact fun z => Or.inl ⟨⟨hp.2, hr⟩, z⟩
    · rintro (z | z)
      · exact z.2
      · exact absurd ⟨hp.2, hr⟩ z.1
  · rw [if_neg hp]
    obtain ⟨m, hm, em, hbits⟩ := sf_out_bits h f hb (s.1 1) (Nat.le_refl _)
    refine ⟨m, hm, em, fun r hr => ?_⟩
    have hn : ¬ (0 < s.2 6 f ∧ 8 * b + r < 8) := fun ⟨z1, z2⟩ => hp ⟨by rw [show b = 0 by omega]; rfl, z1⟩
    rw [hbits r hr]
    constructor
    · exact fun z => Or.inr ⟨hn, z⟩
    · rintro (z | z)
      · exact absurd z.1 hn
      · exact z.2
theorem byo_byte {s : se_S} (h : GA s) {d : Nat → Int64} (hd : dt s d) {f b : Nat} (hf : f < s.1 0) (hb : b < 8) : byo (d f) b = sf_byte s (nI f) (nI b) := by
  obtain ⟨m, hm, em, hbits⟩ := sf_byte_lt h hf hb
  rw [em]
  exact byo_eq hb hm (fun r hr => by rw [hd f hf (8 * b + r) (by omega), hbits r hr])
-- sums
def cn (T : Nat) : Nat := if T = 0 then 0 else (T - 1) % 255 + 1
theorem cn_le (T : Nat) : cn T ≤ 255 := by
  unfold cn
  split <;> omega
theorem cn_small {T : Nat} (h : T ≤ 255) : cn T = T := by
  unfold cn
  split <;> omega
theorem cn_step (T b : Nat) (hb : b ≤ 255) : cn (T + b) = if 255 < cn T + b then cn T + b - 255 else cn T + b := by
  unfold cn
  by_cases h : T = 0
  · subst h
    simp only [Nat.zero_add, ↓reduceIte]
    split <;> split <;> omega
  · rw [if_neg h, if_neg (by omega)]
    split <;> omega
theorem se_chk_cn {T : Nat} (hT : T < 2 ^ 30) : se_chk (nI T) = nI (255 - cn T) := by
  unfold se_chk cn
  by_cases h : T = 0
  · subst h; rfl
  · have hne : ¬ (nI T == 0) = true := by simpa using nI_ne0 (by omega) (show T < 2 ^ 31 by omega)
    obtain ⟨t, rfl⟩ : ∃ t, T = t + 1 := ⟨T - 1, by omega⟩
    rw [if_neg hne, if_neg h, nI_pred, show (255 : Int32) = nI 255 by decide, pk_rem (by omega) (by decide) (by decide), nI_1, pk_sub (by omega)]
    rfl
/-- start and the first k bytes, added -/
def bs (g : Nat → Nat) (t0 : Nat) : Nat → Nat
  | 0 => t0
  | k + 1 => bs g t0 k + g k
theorem bs_le {g : Nat → Nat} {t0 : Nat} (h0 : t0 ≤ 255) (hg : ∀ k, g k ≤ 255) : ∀ k, bs g t0 k ≤ 255 * (k + 1)
  | 0 => by unfold bs; omega
  | k + 1 => by
    have := bs_le h0 hg k
    have := hg k
    unfold bs
    omega
theorem bs_as {g g' : Nat → Nat} {t0 : Nat} : ∀ n, (∀ k, k < n → g k = g' k) → bs g t0 n = bs g' t0 n
  | 0, _ => rfl
  | n + 1, h => by
    unfold bs
    rw [bs_as n (fun k hk => h k (by omega)), h n (by omega)]
theorem sf_sm_bs {s : se_S} {f : Int32} {g : Nat → Nat} {t0 : Nat} (h0 : (if s.2 4 f.toNatClampNeg = 0 then 0 else s.2 20 0) = nI t0) : ∀ n, (∀ k, k < n → sf_byte s f (nI k) = nI (g k)) → sf_sm s f n = nI (bs g t0 n)
  | 0, _ => h0
  | n + 1, h => by
    unfold sf_sm bs
    rw [sf_sm_bs h0 n (fun k hk => h k (by omega)), h n (by omega), nI_add]
theorem sf_ts_bs {I : Nat → Nat → Int32} {more : Int32} {g : Nat → Nat} {t0 : Nat} (h0 : (if more = 0 then 0 else I 20 0) = nI t0) : ∀ n, (∀ k, k < n → I 20 (k + 1) = nI (g k)) → sf_ts I more n = nI (bs g t0 n)
  | 0, _ => h0
  | n + 1, h => by
    unfold sf_ts bs
    rw [sf_ts_bs h0 n (fun k hk => h k (by omega)), h n (by omega), nI_add]
-- the bytes of the line as one long
def dof (l : Nat → Int32) (n : Nat) : Nat → Int64
  | 0 => 0
  | i + 1 => (dof l n i <<< ((nI 8).toInt64 &&& 63)) ||| (l (n - i)).toInt64
theorem dof_bits {l : Nat → Int32} {g : Nat → Nat} (hl : ∀ k, l k = nI (g k)) (hg : ∀ k, g k < 256) {n : Nat} (hn : n ≤ 8) : ∀ i, i ≤ n → ∀ c, c < 64 → (lb (dof l n i) c = true ↔ c < 8 * i ∧ (g (n - i + 1 + c / 8)).testBit (c % 8) = true) := by
  intro i
  induction i with
  | zero =>
    intro _ c hc
    unfold dof
    rw [lb_0]
    simp
  | succ i ih =>
    intro hi c hc
    unfold dof
    rw [lb_or, lb_shl _ (by decide), hl]
    have hgl := hg (n - i)
    by_cases h8 : c < 8
    · rw [lb_int _ (by omega), ib_nI (by omega), show n - (i + 1) + 1 + c / 8 = n - i by omega, show c % 8 = c by omega]
      simp [h8, show c < 8 * (i + 1) by omega]
    · have hz : lb (nI (g (n - i))).toInt64 c = false := by
        have : ∀ m, m < 256 → ∀ c, 8 ≤ c → c < 64 → lb (nI m).toInt64 c = false := by
          intro m hm c hc8 hc
          unfold lb
          rw [Int32.toBitVec_toInt64, BitVec.getLsbD_signExtend]
          have hm31 : (nI m).toBitVec.msb = false := by
            rw [BitVec.msb_eq_getLsbD_last]
            have := ib_nI (m := m) (by omega) 31
            unfold ib at this
            show (nI m).toBitVec.getLsbD 31 = false
            rw [this]
            exact Nat.testBit_lt_two_pow (by omega)
          rw [hm31]
          by_cases h32 : c < 32
          · have := ib_nI (m := m) (by omega) c
            unfold ib at this
            rw [this, Nat.testBit_lt_two_pow (Nat.lt_of_lt_of_le (show m < 2 ^ 8 by omega) (Nat.pow_le_pow_right (by decide) hc8))]
            simp
          · simp [h32]
        exact this _ hgl c (by omega) hc
      rw [hz, Bool.or_false]
      have := ih (by omega) (c - 8) (by omega)
      rw [show n - (i + 1) + 1 + c / 8 = n - i + 1 + (c - 8) / 8 by omega, show c % 8 = (c - 8) % 8 by omega]
      simp only [decide_eq_true hc, decide_eq_false h8, Bool.true_and, Bool.not_false]
      rw [this]
      constructor
      · exact fun z => ⟨by omega, z.2⟩
      · exact fun z => ⟨by omega, z.2⟩
theorem dof_byte {l : Nat → Int32} {g : Nat → Nat} (hl : ∀ k, l k = nI (g k)) (hg : ∀ k, g k < 256) {n k : Nat} (hn : n ≤ 8) (hk : k < n) : byo (dof l n n) k = nI (g (k + 1)) := by
  refine byo_eq (by omega) (hg _) (fun r hr => ?_)
  rw [dof_bits hl hg hn n (Nat.le_refl _) _ (by omega), show n - n + 1 + (8 * k + r) / 8 = k + 1 by omega, show (8 * k + r) % 8 = r by omega]
  exact ⟨fun z => z.2, fun z => ⟨by omega, z⟩⟩
-- what a signal takes
def rcv (d : Int64) (o w : Int32) : Int32 := ((d.toUInt64 >>> (o.toInt64.toUInt64 &&& Int64.toUInt64 63)).toInt64 &&& mst w).toInt32
theorem shlN : ∀ i : Fin 16, (1 : Int32) <<< (nI i.1 &&& 31) = nI (2 ^ i.1) ∧ (0 : Int32) <<< (nI i.1 &&& 31) = nI 0 := by decide +kernel
theorem sf_tk_bits {I : Nat → Nat → Int32} {j o : Nat} (e8 : I 8 j = nI o) {g : Nat → Nat} (hl : ∀ k, I 20 k = nI (g k)) (hg : ∀ k, g k < 256) : ∀ i, i ≤ 16 → o + i ≤ 64 → ∃ m, m < 2 ^ i ∧ sf_tk I j i = nI m ∧ ∀ r, r < i → (m.testBit r = true ↔ (g (1 + (o + r) / 8)).testBit ((o + r) % 8) = true) := by
  intro i
  induction i with
  | zero =>
    intro _ _
    exact ⟨0, by decide, rfl, fun r hr => by omega⟩
  | succ i ih =>
    intro hi ho
    obtain ⟨m, hm, em, hbits⟩ := ih (by omega) (by omega)
    have h1 : (1 + (I 8 j + nI i) / 8).toNatClampNeg = 1 + (o + i) / 8 := by
      rw [e8, nI_add, div8 (by omega), show (1 : Int32) = nI 1 by decide, nI_add, nI_clamp (by omega)]
    have h2 : sf_rem (I 8 j + nI i) 8 = nI ((o + i) % 8) := by rw [e8, nI_add, sf_rem8 (by omega)]
    have hgl := hg (1 + (o + i) / 8)
    have h65 : 2 ^ i ≤ 2 ^ 15 := Nat.pow_le_pow_right (by decide) (by omega)
    have hbit : ib (nI (g (1 + (o + i) / 8))) ((o + i) % 8) = (g (1 + (o + i) / 8)).testBit ((o + i) % 8) := ib_nI (by omega) _
    unfold sf_tk
    rw [em, h1, h2, hl]
    cases eb : (g (1 + (o + i) / 8)).testBit ((o + i) % 8) with
    | false =>
      have hz : nI (g (1 + (o + i) / 8)) >>> (nI ((o + i) % 8) &&& 31) &&& 1 = 0 := (bitI _ (by omega)).mpr (by rw [hbit, eb])
      refine ⟨m, by rw [Nat.pow_succ]; omega, ?_, fun r hr => ?_⟩
      · rw [hz, (shlN ⟨i, by omega⟩).2, nI_add, Nat.add_zero]
      · by_cases er : r = i
        · subst er
          rw [eb, Nat.testBit_lt_two_pow hm]
        · exact hbits r (by omega)
    | true =>
      have hz : nI (g (1 + (o + i) / 8)) >>> (nI ((o + i) % 8) &&& 31) &&& 1 = 1 := by
        apply ib_ext
        intro c hc
        rw [ib_and, ib_1 ⟨c, hc⟩]
        by_cases hc0 : c = 0
        · subst hc0
          rw [ib_shr _ (by omega) 0 (by omega), Nat.add_zero, hbit, eb]
          rfl
        · simp [hc0]
      refine ⟨2 ^ i + m, by rw [Nat.pow_succ]; omega, ?_, fun r hr => ?_⟩
      · rw [hz, (shlN ⟨i, by omega⟩).1, nI_add, Nat.add_comm]
      · by_cases er : r = i
        · subst er
          rw [eb, Nat.testBit_two_pow_add_eq, Nat.testBit_lt_two_pow hm]
          simp
        · rw [Nat.testBit_two_pow_add_gt (by omega)]
          exact hbits r (by omega)
theorem rcv_tk {I : Nat → Nat → Int32} {j o w n : Nat} (e8 : I 8 j = nI o) (h1 : 1 ≤ w) (hw : w ≤ 16) (how : o + w ≤ 8 * n) (hn : n ≤ 8) {g : Nat → Nat} (hl : ∀ k, I 20 k = nI (g k)) (hg : ∀ k, g k < 256) : rcv (dof (I 20) n n) (nI o) (nI w) = sf_tk I j w := by
  obtain ⟨m, hm, em, hbits⟩ := sf_tk_bits e8 hl hg w hw (by omega)
  have h65 : 2 ^ w ≤ 2 ^ 16 := Nat.pow_le_pow_right (by decide) hw
  rw [em]
  apply ib_ext
  intro c hc
  unfold rcv
  rw [ib_int _ hc, lb_and, lb_shr _ (by omega), lb_mst' hw, ib_nI (by omega)]
  by_cases hcw : c < w
  · rw [decide_eq_true hcw, Bool.and_true]
    have a := dof_bits hl hg hn n (Nat.le_refl _) (o + c) (by omega)
    rw [show n - n + 1 + (o + c) / 8 = 1 + (o + c) / 8 by omega] at a
    have b := hbits c hcw
    cases e1 : lb (dof (I 20) n n) (o + c) <;> cases e2 : m.testBit c
    · rfl
    · rw [e1] at a
      rw [e2] at b
      exact absurd (a.mpr ⟨by omega, b.mp rfl⟩) (by decide)
    · rw [e1] at a
      rw [e2] at b
      exact absurd (b.mpr (a.mp rfl).2) (by decide)
    · rfl
  · rw [decide_eq_false hcw, Bool.and_false]
    exact (Nat.testBit_lt_two_pow (Nat.lt_of_lt_of_le hm (Nat.pow_le_pow_right (by decide) (by omega)))).symm
