theorem tb_n0 : (Cond.methodLinkNest "HeaderSchedule" 31 y_Sc_init "HeaderSchedule" : Cond) ∈ lw_tbl := List.mem_of_getElem? (i := 88) (by decide +kernel)
theorem tb_n1 : (Cond.methodLinkNest "HeaderSchedule$Schedule" 11 y_Tb_init "HeaderSchedule" : Cond) ∈ lw_tbl := List.mem_of_getElem? (i := 95) (by decide +kernel)
theorem tb_n2 : (Cond.methodLinkNest "HeaderSchedule" 38 y_Wi_init "HeaderSchedule" : Cond) ∈ lw_tbl := List.mem_of_getElem? (i := 138) (by decide +kernel)
theorem tb_n3 : (Cond.methodLinkNest "HeaderSchedule$Wire" 38 y_Hs_byteOf "HeaderSchedule" : Cond) ∈ lw_tbl := List.mem_of_getElem? (i := 584) (by decide +kernel)
theorem tb_n4 : (Cond.methodLinkNest "HeaderSchedule$Frame" 44 y_Hs_byteOf "HeaderSchedule" : Cond) ∈ lw_tbl := List.mem_of_getElem? (i := 592) (by decide +kernel)
theorem tb_n5 : (Cond.methodLinkNest "HeaderSchedule$Wire" 25 y_Hs_isWithin "HeaderSchedule" : Cond) ∈ lw_tbl := List.mem_of_getElem? (i := 646) (by decide +kernel)
theorem tb_a0 : (Cond.arrayOver (.object "HeaderSchedule$Table")) ∈ lw_tbl := List.mem_of_getElem? (i := 93) (by decide +kernel)
theorem tb_a1 : (Cond.arrayOver (.object "java/lang/Object")) ∈ lw_tbl := List.mem_of_getElem? (i := 305) (by decide +kernel)
theorem tb_a2 : (Cond.arrayOver (.object "HeaderSchedule$Frame")) ∈ lw_tbl := List.mem_of_getElem? (i := 394) (by decide +kernel)
theorem tb_c0 : (Cond.castable "HeaderSchedule$Frame" "java/lang/Object") ∈ lw_tbl := List.mem_of_getElem? (i := 959) (by decide +kernel)
theorem tb_c1 : (Cond.castable "HeaderSchedule$Signal" "java/lang/Object") ∈ lw_tbl := List.mem_of_getElem? (i := 960) (by decide +kernel)
theorem tb_c2 : (Cond.castable "HeaderSchedule$Group" "java/lang/Object") ∈ lw_tbl := List.mem_of_getElem? (i := 961) (by decide +kernel)
theorem tb_c3 : (Cond.castable "HeaderSchedule$Event" "java/lang/Object") ∈ lw_tbl := List.mem_of_getElem? (i := 962) (by decide +kernel)
theorem tb_c4 : (Cond.castable "HeaderSchedule$Entry" "java/lang/Object") ∈ lw_tbl := List.mem_of_getElem? (i := 963) (by decide +kernel)
theorem tb_ls : (Cond.laysStatic "java/util/ArrayList" "DEFAULTCAPACITY_EMPTY_ELEMENTDATA" "[Ljava/lang/Object;") ∈ lw_tbl := List.mem_of_getElem? (i := 73) (by decide +kernel)
theorem tb_dc : (Cond.declares ⟨"java/lang/Object", "getClass", "()Ljava/lang/Class;"⟩) ∈ lw_tbl := List.mem_of_getElem? (i := 953) (by decide +kernel)
theorem tb_ini : (Cond.initialized "java/util/ArrayList") ∈ lw_tbl := List.mem_of_getElem? (i := 36) (by decide +kernel)
theorem tb_iHs : (Cond.instantiable "HeaderSchedule" 11) ∈ lw_tbl := List.mem_of_getElem? (i := 53) (by decide +kernel)
theorem tb_iFr : (Cond.instantiable "HeaderSchedule$Frame" 8) ∈ lw_tbl := List.mem_of_getElem? (i := 208) (by decide +kernel)
theorem tb_iSg : (Cond.instantiable "HeaderSchedule$Signal" 5) ∈ lw_tbl := List.mem_of_getElem? (i := 338) (by decide +kernel)
theorem tb_iGr : (Cond.instantiable "HeaderSchedule$Group" 1) ∈ lw_tbl := List.mem_of_getElem? (i := 389) (by decide +kernel)
theorem tb_iEv : (Cond.instantiable "HeaderSchedule$Event" 3) ∈ lw_tbl := List.mem_of_getElem? (i := 429) (by decide +kernel)
theorem tb_iEn : (Cond.instantiable "HeaderSchedule$Entry" 3) ∈ lw_tbl := List.mem_of_getElem? (i := 461) (by decide +kernel)
theorem tb_iTb : (Cond.instantiable "HeaderSchedule$Table" 1) ∈ lw_tbl := List.mem_of_getElem? (i := 94) (by decide +kernel)
theorem tb_iSc : (Cond.instantiable "HeaderSchedule$Schedule" 8) ∈ lw_tbl := List.mem_of_getElem? (i := 87) (by decide +kernel)
theorem tb_iWi : (Cond.instantiable "HeaderSchedule$Wire" 4) ∈ lw_tbl := List.mem_of_getElem? (i := 137) (by decide +kernel)
theorem tb_iAl : (Cond.instantiable "java/util/ArrayList" 3) ∈ lw_tbl := List.mem_of_getElem? (i := 61) (by decide +kernel)
theorem tb_iMo : (Cond.instantiable "HeaderScheduleModel" 40) ∈ lw_tbl := List.mem_of_getElem? (i := 672) (by decide +kernel)
theorem wh_K {s : State} {args : Array Value} (hts : ∀ w ∈ lw_tbl, w.before args s = true) : ∃ D : va_G, va_K D wcl [] s := by
  have key : ∀ c : Nat, ∃ (cC : ClassId) (iS : Nat → Nat), ∀ q : vw_C, wcl[c]? = some q → u_Kn s q.1 q.2.1 q.2.2 cC iS := by
    intro c
    match c with
    | 0 =>
      obtain ⟨cC, iS, h⟩ := u_known hts (fun w h => mw_in (in_Hs w h)) (hts _ tb_iHs)
      exact ⟨cC, iS, fun q hq => by cases hq; exact h⟩
    | 1 =>
      obtain ⟨cC, iS, h⟩ := u_known hts (fun w h => mw_in (in_Fr w h)) (hts _ tb_iFr)
      exact ⟨cC, iS, fun q hq => by cases hq; exact h⟩
    | 2 =>
      obtain ⟨cC, iS, h⟩ := u_known hts (fun w h => mw_in (in_Sg w h)) (hts _ tb_iSg)
      exact ⟨cC, iS, fun q hq => by cases hq; exact h⟩
    | 3 =>
      obtain ⟨cC, iS, h⟩ := u_known hts (fun w h => mw_in (in_Gr w h)) (hts _ tb_iGr)
      exact ⟨cC, iS, fun q hq => by cases hq; exact h⟩
    | 4 =>
      obtain ⟨cC, iS, h⟩ := u_known hts (fun w h => mw_in (in_Ev w h)) (hts _ tb_iEv)
      exact ⟨cC, iS, fun q hq => by cases hq; exact h⟩
    | 5 =>
      obtain ⟨cC, iS, h⟩ := u_known hts (fun w h => mw_in (in_En w h)) (hts _ tb_iEn)
      exact ⟨cC, iS, fun q hq => by cases hq; exact h⟩
    | 6 =>
      obtain ⟨cC, iS, h⟩ := u_known hts (fun w h => mw_in (in_Tb w h)) (hts _ tb_iTb)
      exact ⟨cC, iS, fun q hq => by cases hq; exact h⟩
    | 7 =>
      obtain ⟨cC, iS, h⟩ := u_known hts (fun w h => mw_in (in_Sc w h)) (hts _ tb_iSc)
      exact ⟨cC, iS, fun q hq => by cases hq; exact h⟩
    | 8 =>
      obtain ⟨cC, iS, h⟩ := u_known hts (fun w h => mw_in (in_Wi w h)) (hts _ tb_iWi)
      exact ⟨cC, iS, fun q hq => by cases hq; exact h⟩
    | 9 =>
      obtain ⟨cC, iS, h⟩ := u_known hts (fun w h => mw_in (in_Al w h)) (hts _ tb_iAl)
      exact ⟨cC, iS, fun q hq => by cases hq; exact h⟩
    | 10 =>
      obtain ⟨cC, iS, h⟩ := u_known hts (fun w h => mw_in (in_Mo w h)) (hts _ tb_iMo)
      exact ⟨cC, iS, fun q hq => by cases hq; exact h⟩
    | _ + 11 => exact ⟨0, fun _ => 0, fun q hq => by cases hq⟩
  obtain ⟨f, hf⟩ := Classical.axiomOfChoice key
  obtain ⟨g, hg⟩ := Classical.axiomOfChoice hf
  exact ⟨(f, g), fun c q hq => hg c q hq, fun k q hq => by cases hq⟩
theorem wh_Z {s : State} {b : Nat} (hts : ∀ w ∈ lw_tbl, w.before #[Value.ref b] s = true) (hgv : (Jvm.Cond.and given_1 narrow_1).before #[Value.ref b] s = true) : ∃ zz : Nat × Nat, mx_Z zz (fun q => s.heap.size ≤ q) s s.heap := by
  have hs := flat_of_before _ hgv
  have hA : ∀ a : Nat, a < s.heap.size → ¬ s.heap.size ≤ a := fun a h => Nat.not_le.mpr h
  have harr : (Cond.arrayOf (.static "java/util/ArrayList" "DEFAULTCAPACITY_EMPTY_ELEMENTDATA" "[Ljava/lang/Object;") (.object "java/lang/Object")).before #[Value.ref b] s = true := hs _ (by decide +kernel)
  have hlen : (Cond.eq (.length (.static "java/util/ArrayList" "DEFAULTCAPACITY_EMPTY_ELEMENTDATA" "[Ljava/lang/Object;")) (.int 0)).before #[Value.ref b] s = true := hs _ (by decide +kernel)
  have hmi : (Cond.isRef (.mirror "[Ljava/lang/Object;")).before #[Value.ref b] s = true := hs _ (by decide +kernel)
  obtain ⟨zt, hz1, hz2⟩ := va_Tof (N := 0) (f := fun _ => .null) (A := fun q => s.heap.size ≤ q) (by decide) harr (va_eqt hlen) (fun j hj => absurd hj (Nat.not_lt_zero j)) hA
  obtain ⟨mi, hM⟩ := va_Mi.of hmi
  refine ⟨(zt, mi), va_Zref (hts _ tb_ls) (hts _ tb_ini) hz1 hA, hz2, ?_, ?_, hM, va_Dc.of (hts _ tb_dc), ?_⟩
  · intro w hw
    simp only [mx_nw, List.mem_cons, List.not_mem_nil, or_false] at hw
    rcases hw with rfl | rfl | rfl | rfl | rfl | rfl
    · exact va_Nw.of rfl (hts _ tb_n0)
    · exact va_Nw.of rfl (hts _ tb_n1)
    · exact va_Nw.of rfl (hts _ tb_n2)
    · exact va_Nw.of rfl (hts _ tb_n3)
    · exact va_Nw.of rfl (hts _ tb_n4)
    · exact va_Nw.of rfl (hts _ tb_n5)
  · intro C hC
    simp only [mx_ao, List.mem_cons, List.not_mem_nil, or_false] at hC
    rcases hC with rfl | rfl | rfl
    · exact va_AO.of (hts _ tb_a0)
    · exact va_AO.of (hts _ tb_a1)
    · exact va_AO.of (hts _ tb_a2)
  · intro C hC
    simp only [mx_cs, List.mem_cons, List.not_mem_nil, or_false] at hC
    rcases hC with rfl | rfl | rfl | rfl | rfl
    · exact va_Nw.of rfl (hts _ tb_c0)
    · exact va_Nw.of rfl (hts _ tb_c1)
    · exact va_Nw.of rfl (hts _ tb_c2)
    · exact va_Nw.of rfl (hts _ tb_c3)
    · exact va_Nw.of rfl (hts _ tb_c4)
/-- what is left: the law's meaning, a statement without a machine -/
def LawPure : Prop := ∀ (zz : Nat × Nat) (b L : Nat) (xs : Nat → Int32), L ≤ 3072 → mx_G r_law (t_law zz b L xs) 0 [(0, .ref b)] [] (fun _ => none) 0 0
theorem whole_of (hp : LawPure) {p : Program} {e : Env} {s : State} {m : MethodId} {below : List Frame} {meth : Method} {c : Code} (l : Launch) {b L : Nat} {xs : Nat → Int32} (hL : L ≤ 3072) (C0 : lw_At p s m meth c b L xs) : W p l e room_1 s m #[Value.ref b] below meth c s.heap [] 0 0 (lw_Z below #[Value.ref b] s) (entryFrame m ([Value.ref b] : List Value).toArray 4) := by
  obtain ⟨D, hK⟩ := wh_K C0.2.2.2.2.2.1
  obtain ⟨zz, hz⟩ := wh_Z C0.2.2.2.2.2.1 C0.2.2.2.2.2.2.2.2.2
  rw [lg_entry_eq]
  refine mx_G_sound (ok_law_tab l zz C0 hK hz) (hp zz b L xs hL) _ s.heap [] (lv_entry [Value.ref b] (Nat.le_of_ble_eq_true rfl)) ?_ va_S.rf
  refine ⟨[], fun _ => .inr (0, []), ?_, ?_, fun a e h => by cases h⟩
  · intro k q hq
    cases hq
  · exact ⟨fun i j p q hp => by (cases hp), fun k q hq => by (cases hq)⟩
