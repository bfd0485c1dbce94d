/-! What the calls mean: a state is (cnt, I): cnt 0 .. 3 the numbers of frames, signals, groups, event frames, cnt (4 + t) the entries of table t; I k i numbers by field and place. Both the class and the reference are held against these functions.
I 0: 0 started, 1 asleep, 2 rest, 3 table, 4 next, 5 resolving, 6 asideTable, 7 asideNext, 8 wanted, 9 trouble, 10 busCount, 11 noisy, 12 noiseAt, 13 noiseMask
frames: 1 name, 2 publisher, 3 size, 4 enhanced, 5 waiting, 6 partOf; signals: 7 home, 8 from, 9 width, 10 written, 11 received, 12 isNew; 13 member (3 g + q); 14 eventName, 15 choice (3 e + q), 16 rescue; 17 kind, 18 number, 19 delay (8 t + i); 20 line; 21 answers -/
abbrev se_S : Type := (Nat → Nat) × (Nat → Nat → Int32)
def se_any (p : Nat → Bool) : Nat → Bool
  | 0 => false
  | n + 1 => se_any p n || p n
theorem se_any_iff (p : Nat → Bool) : ∀ n, se_any p n = true ↔ ∃ j, j < n ∧ p j = true
  | 0 => by simp [se_any]
  | n + 1 => by
    simp only [se_any, Bool.or_eq_true, se_any_iff p n]
    constructor
    · rintro (⟨j, h1, h2⟩ | h)
      · exact ⟨j, by omega, h2⟩
      · exact ⟨n, by omega, h⟩
    · rintro ⟨j, h1, h2⟩
      by_cases hj : j = n
      · subst hj; exact Or.inr h2
      · exact Or.inl ⟨j, by omega, h2⟩
def se_b (b : Bool) : Int32 := if b then 1 else 0
def se_wi (v lo hi : Int32) : Bool := !decide (v < lo) && !decide (hi < v)
def se_tk (s : se_S) (id : Int32) : Bool := se_any (fun f => s.2 1 f == id) (s.1 0) || se_any (fun e => s.2 14 e == id) (s.1 3)
def se_frame (s : se_S) (id node len more : Int32) : Int32 × se_S :=
  if !(s.2 0 0 == 0) || s.1 0 == 8 || !se_wi id 0 59 || se_tk s id || !se_wi node 0 3 || !se_wi len 1 8 then (-1, s)
  else (nI (s.1 0), va_up s.1 0 (s.1 0 + 1), up2 (up2 (up2 (up2 s.2 1 (s.1 0) id) 2 (s.1 0) node) 3 (s.1 0) len) 4 (s.1 0) more)
def se_cov (s : se_S) (j : Nat) (b : Int32) : Bool := decide (s.2 8 j ≤ b) && decide (b < s.2 8 j + s.2 9 j)
def se_bt (s : se_S) (f b : Int32) : Bool := se_any (fun j => s.2 7 j == f && se_cov s j b) (s.1 1)
def se_signal (s : se_S) (f off w v : Int32) : Int32 × se_S :=
  if !(s.2 0 0 == 0) || s.1 1 == 16 || !se_wi f 0 (nI (s.1 0) - 1) || !se_wi w 1 16 then (-1, s)
  else if !se_wi off (if 0 < s.2 6 f.toNatClampNeg then 8 else 0) (8 * s.2 3 f.toNatClampNeg - w) || !se_wi v 0 ((1 <<< (w &&& 31)) - 1) then (-1, s)
  else if se_any (fun j => se_bt s f (off + nI j)) w.toNatClampNeg then (-1, s)
  else (nI (s.1 1), va_up s.1 1 (s.1 1 + 1), up2 (up2 (up2 (up2 (up2 s.2 7 (s.1 1) f) 8 (s.1 1) off) 9 (s.1 1) w) 10 (s.1 1) v) 11 (s.1 1) v)
def se_ex (s : se_S) (f : Int32) : Bool := se_wi f 0 (nI (s.1 0) - 1)
def se_sporadic (s : se_S) (a b c : Int32) : Int32 × se_S :=
  if !(s.2 0 0 == 0) || s.1 2 == 2 || !se_ex s a || !se_ex s b || (!(c == -1) && !se_ex s c) || a == b || a == c || b == c then (-1, s)
  else if !(s.2 2 a.toNatClampNeg == 0) || !(s.2 2 b.toNatClampNeg == 0) || (!(c == -1) && !(s.2 2 c.toNatClampNeg == 0)) then (-1, s)
  else (nI (s.1 2), va_up s.1 2 (s.1 2 + 1), up2 (up2 (up2 s.2 13 (3 * s.1 2) a) 13 (3 * s.1 2 + 1) b) 13 (3 * s.1 2 + 2) c)
def se_free (s : se_S) (f : Int32) : Bool := se_ex s f && s.2 6 f.toNatClampNeg == 0 && !(s.2 2 f.toNatClampNeg == 0) && !se_any (fun b => se_bt s f (nI b)) 8
def se_fit (s : se_S) (a b : Int32) : Bool := !(s.2 2 a.toNatClampNeg == s.2 2 b.toNatClampNeg) && s.2 3 a.toNatClampNeg == s.2 3 b.toNatClampNeg && s.2 4 a.toNatClampNeg == s.2 4 b.toNatClampNeg
def se_event (s : se_S) (id a b c t : Int32) : Int32 × se_S :=
  if !(s.2 0 0 == 0) || s.1 3 == 2 || !se_wi id 0 59 || se_tk s id || !se_wi t 0 2 then (-1, s)
  else if !se_free s a || !se_free s b || (!(c == -1) && !se_free s c) || !se_fit s a b then (-1, s)
  else if !(c == -1) && (!se_fit s a c || !se_fit s b c) then (-1, s)
  else
    let I1 := up2 (up2 (up2 (up2 (up2 s.2 14 (s.1 3) id) 16 (s.1 3) t) 15 (3 * s.1 3) a) 15 (3 * s.1 3 + 1) b) 15 (3 * s.1 3 + 2) c
    let I2 := up2 (up2 I1 6 a.toNatClampNeg (nI (s.1 3 + 1))) 6 b.toNatClampNeg (nI (s.1 3 + 1))
    (nI (s.1 3), va_up s.1 3 (s.1 3 + 1), if c == -1 then I2 else up2 I2 6 c.toNatClampNeg (nI (s.1 3 + 1)))
def se_entry (s : se_S) (t kind num d : Int32) : Int32 × se_S :=
  if !(s.2 0 0 == 0) || !se_wi t 0 2 || s.1 (4 + t.toNatClampNeg) == 8 || !se_wi kind 0 2 || !se_wi d 1 20 then (0, s)
  else if !se_wi num 0 (nI (s.1 (if kind == 0 then 0 else if kind == 1 then 2 else 3)) - 1) then (0, s)
  else
    let k := 8 * t.toNatClampNeg + s.1 (4 + t.toNatClampNeg)
    (1, va_up s.1 (4 + t.toNatClampNeg) (s.1 (4 + t.toNatClampNeg) + 1), up2 (up2 (up2 s.2 17 k kind) 18 k num) 19 k d)
def se_res (s : se_S) (e : Nat) : Bool :=
  let t := (s.2 16 e).toNatClampNeg
  !se_any (fun j => !(s.2 17 (8 * t + j) == 0)) (s.1 (4 + t)) && !se_any (fun q => !(s.2 15 (3 * e + q) == -1) && !se_any (fun j => s.2 17 (8 * t + j) == 0 && s.2 18 (8 * t + j) == s.2 15 (3 * e + q)) (s.1 (4 + t))) 3
def se_start (s : se_S) (t : Int32) : Int32 × se_S :=
  if !(s.2 0 0 == 0) || !se_wi t 0 2 || s.1 (4 + t.toNatClampNeg) == 0 then (0, s)
  else if se_any (fun e => !se_res s e) (s.1 3) then (0, s)
  else (1, s.1, up2 (up2 (up2 s.2 0 0 1) 0 3 t) 0 4 0)
def se_write (s : se_S) (g v : Int32) : Int32 × se_S :=
  if !se_wi g 0 (nI (s.1 1) - 1) || !se_wi v 0 ((1 <<< (s.2 9 g.toNatClampNeg &&& 31)) - 1) then (0, s)
  else (1, s.1, up2 (up2 s.2 10 g.toNatClampNeg v) 5 (s.2 7 g.toNatClampNeg).toNatClampNeg 1)
def se_read (s : se_S) (g : Int32) : Int32 := if se_wi g 0 (nI (s.1 1) - 1) then s.2 11 g.toNatClampNeg else -1
def se_fresh (s : se_S) (g : Int32) : Int32 × se_S := if !se_wi g 0 (nI (s.1 1) - 1) then (0, s) else (s.2 12 g.toNatClampNeg, s.1, up2 s.2 12 g.toNatClampNeg 0)
def se_pending (s : se_S) (f : Int32) : Int32 := if se_ex s f then s.2 5 f.toNatClampNeg else 0
def se_request (s : se_S) (t : Int32) : Int32 × se_S := if s.2 0 0 == 0 || !se_wi t 0 2 || s.1 (4 + t.toNatClampNeg) == 0 then (0, s) else (1, s.1, up2 s.2 0 8 t)
def se_noise (s : se_S) (k m : Int32) : Int32 × se_S := if !se_wi k 0 8 || !se_wi m 1 255 then (0, s) else (1, s.1, up2 (up2 (up2 s.2 0 11 1) 0 12 k) 0 13 m)
def se_bit (x : Int32) (b : Nat) : Nat := (x.toBitVec.toNat / 2 ^ b) % 2
def se_grd (i : Int32) : Int32 := i + 64 * nI ((se_bit i 0 + se_bit i 1 + se_bit i 2 + se_bit i 4) % 2) + 128 * (1 - nI ((se_bit i 1 + se_bit i 3 + se_bit i 4 + se_bit i 5) % 2))
-- a slot
/-- bit c of frame f's data, its own byte 0 aside: 0 only where a signal has a 0 -/
def se_dbit (s : se_S) (f : Int32) (c : Nat) : Bool := !se_any (fun j => s.2 7 j == f && se_cov s j (nI c) && ((s.2 10 j) >>> ((nI c - s.2 8 j) &&& 31) &&& 1) == 0) (s.1 1)
def se_sum8 (p : Nat → Bool) : Nat → Nat
  | 0 => 0
  | n + 1 => se_sum8 p n + if p n then 2 ^ n else 0
def se_byte (s : se_S) (f : Int32) (b : Nat) : Int32 :=
  if b == 0 && decide (0 < s.2 6 f.toNatClampNeg) then se_grd (s.2 1 f.toNatClampNeg) else nI (se_sum8 (fun i => se_dbit s f (8 * b + i)) 8)
def se_chk (sum : Int32) : Int32 := if sum == 0 then 255 else 255 - ((sum - 1) - (sum - 1) / 255 * 255 + 1)
def se_tot (g : Nat → Int32) : Nat → Int32
  | 0 => 0
  | n + 1 => se_tot g n + g n
/-- the bytes that frame f's publisher sends behind the header, at places 1, 2 .. -/
def se_sent (s : se_S) (f : Int32) (line : Nat → Int32) : Nat → Int32 := fun j =>
  let len := (s.2 3 f.toNatClampNeg).toNatClampNeg
  if j == 0 then line 0 else if j ≤ len then se_byte s f (j - 1)
  else if j == len + 1 then se_chk ((if s.2 4 f.toNatClampNeg == 0 then 0 else line 0) + se_tot (fun b => se_byte s f b) len) else line j
def se_dist (I : Nat → Nat → Int32) : Nat → Nat → Int32 :=
  up2 (if !(I 0 11 == 0) && decide (I 0 12 + 1 < I 0 10) then up2 I 20 (I 0 12 + 1).toNatClampNeg (I 20 (I 0 12 + 1).toNatClampNeg ^^^ I 0 13) else I) 0 11 0
def se_snd (I : Nat → Nat → Int32) (len more : Int32) : Bool := I 0 10 == len + 2 && se_chk ((if more == 0 then 0 else I 20 0) + se_tot (fun b => I 20 (b + 1)) len.toNatClampNeg) == I 20 (len + 1).toNatClampNeg
def se_take (I : Nat → Nat → Int32) (j : Nat) : Int32 := nI (se_sum8 (fun i => ((I 20 (1 + ((I 8 j + nI i).toNatClampNeg) / 8)) >>> (nI ((I 8 j + nI i).toNatClampNeg % 8) &&& 31) &&& 1) == 1) (I 9 j).toNatClampNeg)
def se_rcv (s : se_S) (I : Nat → Nat → Int32) (f : Int32) : Nat → Nat → Int32 := fun k i =>
  if k == 11 && decide (i < s.1 1) && I 7 i == f then se_take I i
  else if k == 12 && decide (i < s.1 1) && I 7 i == f then 1
  else if k == 5 && i == f.toNatClampNeg then 0 else I k i
def se_row (I : Nat → Nat → Int32) (k : Nat) (r : Nat → Int32) : Nat → Nat → Int32 := fun k' i => if k' = k then r i else I k' i
def se_own (s : se_S) (f : Int32) : Int32 × (Nat → Nat → Int32) :=
  let I1 := up2 s.2 20 0 (se_grd (s.2 1 f.toNatClampNeg))
  let I2 := se_dist (up2 (se_row I1 20 (se_sent s f (I1 20))) 0 10 (s.2 3 f.toNatClampNeg + 2))
  if !se_snd I2 (s.2 3 f.toNatClampNeg) (s.2 4 f.toNatClampNeg) then (3, I2) else (1, se_rcv s I2 f)
def se_pend (s : se_S) (x : Int32) : Bool := !(x == -1) && !(s.2 5 x.toNatClampNeg == 0)
def se_spo (s : se_S) (g : Nat) : Int32 × (Nat → Nat → Int32) :=
  if se_pend s (s.2 13 (3 * g)) then se_own s (s.2 13 (3 * g)) else if se_pend s (s.2 13 (3 * g + 1)) then se_own s (s.2 13 (3 * g + 1)) else if se_pend s (s.2 13 (3 * g + 2)) then se_own s (s.2 13 (3 * g + 2)) else (2, s.2)
def se_all (s : se_S) (e : Nat) : Nat → Int32
  | 0 => 255
  | q + 1 => if se_pend s (s.2 15 (3 * e + q)) then se_all s e q &&& se_grd (s.2 1 (s.2 15 (3 * e + q)).toNatClampNeg) else se_all s e q
def se_evt (s : se_S) (e : Nat) : Int32 × (Nat → Nat → Int32) :=
  let I1 := up2 (up2 s.2 20 0 (se_grd (s.2 14 e))) 0 10 1
  let c := fun q => s.2 15 (3 * e + q)
  if !(se_pend s (c 0) || se_pend s (c 1) || se_pend s (c 2)) then (2, I1)
  else
    let all := se_all s e 3
    let is := fun q => se_pend s (c q) && se_grd (s.2 1 (c q).toNatClampNeg) == all
    let I2 := if is 2 then up2 (se_row I1 20 (se_sent s (c 2) (I1 20))) 0 10 (s.2 3 (c 2).toNatClampNeg + 2)
      else if is 1 then up2 (se_row I1 20 (se_sent s (c 1) (I1 20))) 0 10 (s.2 3 (c 1).toNatClampNeg + 2)
      else if is 0 then up2 (se_row I1 20 (se_sent s (c 0) (I1 20))) 0 10 (s.2 3 (c 0).toNatClampNeg + 2)
      else up2 (up2 I1 20 1 all) 0 10 2
    let I3 := se_dist I2
    let nm := fun q => !(c q == -1) && se_grd (s.2 1 (c q).toNatClampNeg) == I3 20 1
    if se_snd I3 (s.2 3 (c 0).toNatClampNeg) (s.2 4 (c 0).toNatClampNeg) && (nm 0 || nm 1 || nm 2) then (1, se_rcv s I3 (if nm 0 then c 0 else if nm 1 then c 1 else c 2))
    else (4, up2 I3 0 9 (nI (e + 1)))
def se_turn (s : se_S) : Nat → Nat → Int32 :=
  let n := fun t : Int32 => nI (s.1 (4 + t.toNatClampNeg))
  let I1 := if decide (0 < s.2 0 9) then up2 (up2 (up2 (up2 (up2 s.2 0 6 (s.2 0 3)) 0 7 (s.2 0 4)) 0 3 (s.2 16 (s.2 0 9 - 1).toNatClampNeg)) 0 4 0) 0 5 1
    else if !(s.2 0 5 == 0) && s.2 0 4 == n (s.2 0 3) then up2 (up2 (up2 s.2 0 5 0) 0 3 (s.2 0 6)) 0 4 (s.2 0 7) else s.2
  let I2 := if I1 0 5 == 0 && decide (0 ≤ I1 0 8) then up2 (up2 (up2 I1 0 3 (I1 0 8)) 0 4 0) 0 8 (-1) else I1
  up2 I2 0 4 (if I2 0 4 == n (I2 0 3) then 0 else I2 0 4)
def se_tick (s : se_S) : Int32 × se_S :=
  if s.2 0 0 == 0 || !(s.2 0 1 == 0) then (-1, s)
  else if decide (0 < s.2 0 2) then (0, s.1, up2 s.2 0 2 (s.2 0 2 - 1))
  else
    let I1 := se_turn s
    let k := (8 * I1 0 3 + I1 0 4).toNatClampNeg
    let I2 := up2 (up2 (up2 (up2 I1 0 4 (I1 0 4 + 1)) 0 2 (I1 19 k - 1)) 0 9 0) 0 10 0
    let o := if I2 17 k == 0 then se_own (s.1, I2) (I2 18 k) else if I2 17 k == 1 then se_spo (s.1, I2) (I2 18 k).toNatClampNeg else se_evt (s.1, I2) (I2 18 k).toNatClampNeg
    (o.1, s.1, up2 o.2 21 o.1.toNatClampNeg (o.2 21 o.1.toNatClampNeg + 1))
def se_bus (s : se_S) (k : Int32) : Int32 := if se_wi k 0 (s.2 0 10 - 1) then s.2 20 k.toNatClampNeg else -1
def se_count (s : se_S) (a : Int32) : Int32 := if se_wi a 1 4 then s.2 21 a.toNatClampNeg else -1
def se_pos (s : se_S) : Int32 := if s.2 0 0 == 0 then -1 else 16 * s.2 0 3 + s.2 0 4 + (if s.2 0 5 == 0 then 0 else 64)
def se_sleep (s : se_S) : Int32 × se_S := if s.2 0 0 == 0 || !(s.2 0 1 == 0) then (0, s) else (1, s.1, up2 (up2 s.2 0 1 1) 0 2 0)
def se_wake (s : se_S) : Int32 × se_S := if s.2 0 1 == 0 then (0, s) else (1, s.1, up2 s.2 0 1 0)
