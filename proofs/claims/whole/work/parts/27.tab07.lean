theorem d_Mo_write_0 : decode c_Mo_write 0 = .ok (.iload_n 1, 1) := by decide +kernel
theorem d_Mo_write_1 : decode c_Mo_write 1 = .ok (.iconst 0, 1) := by decide +kernel
theorem d_Mo_write_2 : decode c_Mo_write 2 = .ok (.aload_n 0, 1) := by decide +kernel
theorem d_Mo_write_3 : decode c_Mo_write 3 = .ok (.getfield 99, 3) := by decide +kernel
theorem d_Mo_write_6 : decode c_Mo_write 6 = .ok (.iconst 1, 1) := by decide +kernel
theorem d_Mo_write_7 : decode c_Mo_write 7 = .ok (.isub, 1) := by decide +kernel
theorem d_Mo_write_8 : decode c_Mo_write 8 = .ok (.invokestatic 91, 3) := by decide +kernel
theorem d_Mo_write_11 : decode c_Mo_write 11 = .ok (.ifCond .eq 21, 3) := by decide +kernel
theorem d_Mo_write_14 : decode c_Mo_write 14 = .ok (.iload_n 2, 1) := by decide +kernel
theorem d_Mo_write_15 : decode c_Mo_write 15 = .ok (.iconst 0, 1) := by decide +kernel
theorem d_Mo_write_16 : decode c_Mo_write 16 = .ok (.iconst 1, 1) := by decide +kernel
theorem d_Mo_write_17 : decode c_Mo_write 17 = .ok (.aload_n 0, 1) := by decide +kernel
theorem d_Mo_write_18 : decode c_Mo_write 18 = .ok (.getfield 35, 3) := by decide +kernel
theorem d_Mo_write_21 : decode c_Mo_write 21 = .ok (.iload_n 1, 1) := by decide +kernel
theorem d_Mo_write_22 : decode c_Mo_write 22 = .ok (.iaload, 1) := by decide +kernel
theorem d_Mo_write_23 : decode c_Mo_write 23 = .ok (.ishl, 1) := by decide +kernel
theorem d_Mo_write_24 : decode c_Mo_write 24 = .ok (.iconst 1, 1) := by decide +kernel
theorem d_Mo_write_25 : decode c_Mo_write 25 = .ok (.isub, 1) := by decide +kernel
theorem d_Mo_write_26 : decode c_Mo_write 26 = .ok (.invokestatic 91, 3) := by decide +kernel
theorem d_Mo_write_29 : decode c_Mo_write 29 = .ok (.ifCond .ne 5, 3) := by decide +kernel
theorem d_Mo_write_32 : decode c_Mo_write 32 = .ok (.iconst 0, 1) := by decide +kernel
theorem d_Mo_write_33 : decode c_Mo_write 33 = .ok (.ireturn, 1) := by decide +kernel
theorem d_Mo_write_34 : decode c_Mo_write 34 = .ok (.aload_n 0, 1) := by decide +kernel
theorem d_Mo_write_35 : decode c_Mo_write 35 = .ok (.getfield 38, 3) := by decide +kernel
theorem d_Mo_write_38 : decode c_Mo_write 38 = .ok (.iload_n 1, 1) := by decide +kernel
theorem d_Mo_write_39 : decode c_Mo_write 39 = .ok (.iload_n 2, 1) := by decide +kernel
theorem d_Mo_write_40 : decode c_Mo_write 40 = .ok (.iastore, 1) := by decide +kernel
theorem d_Mo_write_41 : decode c_Mo_write 41 = .ok (.aload_n 0, 1) := by decide +kernel
theorem d_Mo_write_42 : decode c_Mo_write 42 = .ok (.getfield 23, 3) := by decide +kernel
theorem d_Mo_write_45 : decode c_Mo_write 45 = .ok (.aload_n 0, 1) := by decide +kernel
theorem d_Mo_write_46 : decode c_Mo_write 46 = .ok (.getfield 29, 3) := by decide +kernel
theorem d_Mo_write_49 : decode c_Mo_write 49 = .ok (.iload_n 1, 1) := by decide +kernel
theorem d_Mo_write_50 : decode c_Mo_write 50 = .ok (.iaload, 1) := by decide +kernel
theorem d_Mo_write_51 : decode c_Mo_write 51 = .ok (.iconst 1, 1) := by decide +kernel
theorem d_Mo_write_52 : decode c_Mo_write 52 = .ok (.bastore, 1) := by decide +kernel
theorem d_Mo_write_53 : decode c_Mo_write 53 = .ok (.iconst 1, 1) := by decide +kernel
theorem d_Mo_write_54 : decode c_Mo_write 54 = .ok (.ireturn, 1) := by decide +kernel
def t_Mo_write (zz : Nat × Nat) : List (Nat × mx_O) := [(0, o_iload 1 1),
  (1, o_push 1 (.int 0)),
  (2, o_aload 1 0),
  (3, o_get 10 7),
  (6, o_push 1 (.int 1)),
  (7, o_ii (fun x y => x - y)),
  (8, o_call 0 0 3 0 0 (fun _ _ => True) (S_Mo_within zz)),
  (11, o_if 32 (fun x => x = 0)),
  (14, o_iload 1 2),
  (15, o_push 1 (.int 0)),
  (16, o_push 1 (.int 1)),
  (17, o_aload 1 0),
  (18, o_get 10 10),
  (21, o_iload 1 1),
  (22, o_iald .int),
  (23, o_ii (fun x y => x <<< (y &&& 31))),
  (24, o_push 1 (.int 1)),
  (25, o_ii (fun x y => x - y)),
  (26, o_call 0 0 3 0 0 (fun _ _ => True) (S_Mo_within zz)),
  (29, o_if 34 (fun x => ¬ x = 0)),
  (32, o_push 1 (.int 0)),
  (33, o_zret),
  (34, o_aload 1 0),
  (35, o_get 10 11),
  (38, o_iload 1 1),
  (39, o_iload 1 2),
  (40, o_iast .int (fun x => x)),
  (41, o_aload 1 0),
  (42, o_get 10 5),
  (45, o_aload 1 0),
  (46, o_get 10 8),
  (49, o_iload 1 1),
  (50, o_iald .int),
  (51, o_push 1 (.int 1)),
  (52, o_iast .boolean (vp_nar .boolean)),
  (53, o_push 1 (.int 1)),
  (54, o_zret)]
set_option maxRecDepth 100000 in
theorem tm_Mo_write (zz : Nat × Nat) : mx_All (fun _ o => mx_Mono o) (t_Mo_write zz) := by
  refine mx_all_cons (mo_st) ?_
  refine mx_all_cons (mo_st) ?_
  refine mx_all_cons (mo_st) ?_
  refine mx_all_cons (mo_st) ?_
  refine mx_all_cons (mo_st) ?_
  refine mx_all_cons (mo_st) ?_
  refine mx_all_cons (mo_call (sm_Mo_within zz)) ?_
  refine mx_all_cons (mo_br) ?_
  refine mx_all_cons (mo_st) ?_
  refine mx_all_cons (mo_st) ?_
  refine mx_all_cons (mo_st) ?_
  refine mx_all_cons (mo_st) ?_
  refine mx_all_cons (mo_st) ?_
  refine mx_all_cons (mo_st) ?_
  refine mx_all_cons (mo_sc) ?_
  refine mx_all_cons (mo_st) ?_
  refine mx_all_cons (mo_st) ?_
  refine mx_all_cons (mo_st) ?_
  refine mx_all_cons (mo_call (sm_Mo_within zz)) ?_
  refine mx_all_cons (mo_br) ?_
  refine mx_all_cons (mo_st) ?_
  refine mx_all_cons (mo_zret) ?_
  refine mx_all_cons (mo_st) ?_
  refine mx_all_cons (mo_st) ?_
  refine mx_all_cons (mo_st) ?_
  refine mx_all_cons (mo_st) ?_
  refine mx_all_cons (mo_sc) ?_
  refine mx_all_cons (mo_st) ?_
  refine mx_all_cons (mo_st) ?_
  refine mx_all_cons (mo_st) ?_
  refine mx_all_cons (mo_st) ?_
  refine mx_all_cons (mo_st) ?_
  refine mx_all_cons (mo_sc) ?_
  refine mx_all_cons (mo_st) ?_
  refine mx_all_cons (mo_sc) ?_
  refine mx_all_cons (mo_st) ?_
  refine mx_all_cons (mo_zret) ?_
  exact mx_all_nil
def S_Mo_write (zz : Nat × Nat) : mx_Sp := mx_S 3 0 0 (t_Mo_write zz)
theorem sm_Mo_write (zz : Nat × Nat) : mx_SMono (S_Mo_write zz) := mx_S_mono (tm_Mo_write zz)
abbrev rm_Mo_write : Room := { frames := 1, cells := 0, slots := 0, locals := 22 }
set_option maxHeartbeats 4000000 in
set_option maxRecDepth 100000 in
theorem m_Mo_write (l : Launch) (zz : Nat × Nat) : mx_Met l y_Mo_write (wsOf y_Mo_write c_Mo_write 3 (some .boolean)) rm_Mo_write wcl (mx_Z zz) 0 0 (S_Mo_write zz) := by
  refine mx_met (cc := c_Mo_write) (ret := (some .boolean)) (by decide) rfl ?_
  intro p e s m args below meth c D A Post X hz hr hlk hnm
  have hm : ∀ w ∈ mw, w.before args s = true := fun w h => X.1.2.2.2.2 w (List.mem_cons_of_mem _ h)
  refine mx_all_cons (ok_iload (fun hl kk => lv_iload_n X.1.1 X.1.2.1 d_Mo_write_0 rfl hl kk)) ?_
  refine mx_all_cons (ok_push (fun kk => lv_iconst X.1.1 X.1.2.1 d_Mo_write_1 (by decide) kk)) ?_
  refine mx_all_cons (ok_aload (fun hl kk => lv_aload_n X.1.1 X.1.2.1 d_Mo_write_2 rfl hl kk) (fun hl kk => lv_aload_nN X.1.1 X.1.2.1 d_Mo_write_2 rfl hl kk)) ?_
  refine mx_all_cons (ok_get (C := "HeaderScheduleModel") (T := T_Mo) (N := 40) X (mw_up in_Mo) rfl 7 (by decide) (hm _ w684) (fun _ h9 => h9) d_Mo_write_3) ?_
  refine mx_all_cons (ok_push (fun kk => lv_iconst X.1.1 X.1.2.1 d_Mo_write_6 (by decide) kk)) ?_
  refine mx_all_cons (ok_ii (fun kk => lv_isub X.1.1 X.1.2.1 d_Mo_write_7 kk)) ?_
  refine mx_all_cons (ok_callS X (mx_Zok_Z zz) hz ⟨(Nat.le_of_ble_eq_true rfl), (Nat.le_of_ble_eq_true rfl)⟩ (m_Mo_within l zz) ⟨mx_cwB 3 hm w804 w802 w40 rfl rfl (by decide +kernel) ⟨(Nat.le_of_ble_eq_true rfl), (Nat.le_of_ble_eq_true rfl)⟩, (hm _ w803)⟩ d_Mo_write_8) ?_
  refine mx_all_cons (ok_if (fun kt kf => lv_if_eq X.1.1 X.1.2.1 d_Mo_write_11 (by decide) kt kf)) ?_
  refine mx_all_cons (ok_iload (fun hl kk => lv_iload_n X.1.1 X.1.2.1 d_Mo_write_14 rfl hl kk)) ?_
  refine mx_all_cons (ok_push (fun kk => lv_iconst X.1.1 X.1.2.1 d_Mo_write_15 (by decide) kk)) ?_
  refine mx_all_cons (ok_push (fun kk => lv_iconst X.1.1 X.1.2.1 d_Mo_write_16 (by decide) kk)) ?_
  refine mx_all_cons (ok_aload (fun hl kk => lv_aload_n X.1.1 X.1.2.1 d_Mo_write_17 rfl hl kk) (fun hl kk => lv_aload_nN X.1.1 X.1.2.1 d_Mo_write_17 rfl hl kk)) ?_
  refine mx_all_cons (ok_get (C := "HeaderScheduleModel") (T := T_Mo) (N := 40) X (mw_up in_Mo) rfl 10 (by decide) (hm _ w687) (fun _ h9 => h9) d_Mo_write_18) ?_
  refine mx_all_cons (ok_iload (fun hl kk => lv_iload_n X.1.1 X.1.2.1 d_Mo_write_21 rfl hl kk)) ?_
  refine mx_all_cons (ok_iald X d_Mo_write_22) ?_
  refine mx_all_cons (ok_ii (fun kk => lv_ishl X.1.1 X.1.2.1 d_Mo_write_23 kk)) ?_
  refine mx_all_cons (ok_push (fun kk => lv_iconst X.1.1 X.1.2.1 d_Mo_write_24 (by decide) kk)) ?_
  refine mx_all_cons (ok_ii (fun kk => lv_isub X.1.1 X.1.2.1 d_Mo_write_25 kk)) ?_
  refine mx_all_cons (ok_callS X (mx_Zok_Z zz) hz ⟨(Nat.le_of_ble_eq_true rfl), (Nat.le_of_ble_eq_true rfl)⟩ (m_Mo_within l zz) ⟨mx_cwB 3 hm w804 w802 w40 rfl rfl (by decide +kernel) ⟨(Nat.le_of_ble_eq_true rfl), (Nat.le_of_ble_eq_true rfl)⟩, (hm _ w803)⟩ d_Mo_write_26) ?_
  refine mx_all_cons (ok_if (fun kt kf => lv_if_ne X.1.1 X.1.2.1 d_Mo_write_29 (by decide) kt (fun z => kf (fun g => g z)))) ?_
  refine mx_all_cons (ok_push (fun kk => lv_iconst X.1.1 X.1.2.1 d_Mo_write_32 (by decide) kk)) ?_
  refine mx_all_cons (ok_zret X hr hlk d_Mo_write_33) ?_
  refine mx_all_cons (ok_aload (fun hl kk => lv_aload_n X.1.1 X.1.2.1 d_Mo_write_34 rfl hl kk) (fun hl kk => lv_aload_nN X.1.1 X.1.2.1 d_Mo_write_34 rfl hl kk)) ?_
  refine mx_all_cons (ok_get (C := "HeaderScheduleModel") (T := T_Mo) (N := 40) X (mw_up in_Mo) rfl 11 (by decide) (hm _ w688) (fun _ h9 => h9) d_Mo_write_35) ?_
  refine mx_all_cons (ok_iload (fun hl kk => lv_iload_n X.1.1 X.1.2.1 d_Mo_write_38 rfl hl kk)) ?_
  refine mx_all_cons (ok_iload (fun hl kk => lv_iload_n X.1.1 X.1.2.1 d_Mo_write_39 rfl hl kk)) ?_
  refine mx_all_cons (ok_iast X d_Mo_write_40) ?_
  refine mx_all_cons (ok_aload (fun hl kk => lv_aload_n X.1.1 X.1.2.1 d_Mo_write_41 rfl hl kk) (fun hl kk => lv_aload_nN X.1.1 X.1.2.1 d_Mo_write_41 rfl hl kk)) ?_
  refine mx_all_cons (ok_get (C := "HeaderScheduleModel") (T := T_Mo) (N := 40) X (mw_up in_Mo) rfl 5 (by decide) (hm _ w682) (fun _ h9 => h9) d_Mo_write_42) ?_
  refine mx_all_cons (ok_aload (fun hl kk => lv_aload_n X.1.1 X.1.2.1 d_Mo_write_45 rfl hl kk) (fun hl kk => lv_aload_nN X.1.1 X.1.2.1 d_Mo_write_45 rfl hl kk)) ?_
  refine mx_all_cons (ok_get (C := "HeaderScheduleModel") (T := T_Mo) (N := 40) X (mw_up in_Mo) rfl 8 (by decide) (hm _ w685) (fun _ h9 => h9) d_Mo_write_46) ?_
  refine mx_all_cons (ok_iload (fun hl kk => lv_iload_n X.1.1 X.1.2.1 d_Mo_write_49 rfl hl kk)) ?_
  refine mx_all_cons (ok_iald X d_Mo_write_50) ?_
  refine mx_all_cons (ok_push (fun kk => lv_iconst X.1.1 X.1.2.1 d_Mo_write_51 (by decide) kk)) ?_
  refine mx_all_cons (ok_zast X d_Mo_write_52) ?_
  refine mx_all_cons (ok_push (fun kk => lv_iconst X.1.1 X.1.2.1 d_Mo_write_53 (by decide) kk)) ?_
  refine mx_all_cons (ok_zret X hr hlk d_Mo_write_54) ?_
  exact mx_all_nil
theorem st_Mo_write_0 (zz : Nat × Nat) (r : mx_T) (ls : mx_L) (st : List Value) (h : mx_H) (c n : Nat) : mx_G r (t_Mo_write zz) 0 ls st h c n = (o_iload 1 1) r (mx_G r (t_Mo_write zz)) 0 ls st h c n := mx_G_eq (tm_Mo_write zz) r 0 ls st h c n
theorem st_Mo_write_1 (zz : Nat × Nat) (r : mx_T) (ls : mx_L) (st : List Value) (h : mx_H) (c n : Nat) : mx_G r (t_Mo_write zz) 1 ls st h c n = (o_push 1 (.int 0)) r (mx_G r (t_Mo_write zz)) 1 ls st h c n := mx_G_eq (tm_Mo_write zz) r 1 ls st h c n
theorem st_Mo_write_2 (zz : Nat × Nat) (r : mx_T) (ls : mx_L) (st : List Value) (h : mx_H) (c n : Nat) : mx_G r (t_Mo_write zz) 2 ls st h c n = (o_aload 1 0) r (mx_G r (t_Mo_write zz)) 2 ls st h c n := mx_G_eq (tm_Mo_write zz) r 2 ls st h c n
theorem st_Mo_write_3 (zz : Nat × Nat) (r : mx_T) (ls : mx_L) (st : List Value) (h : mx_H) (c n : Nat) : mx_G r (t_Mo_write zz) 3 ls st h c n = (o_get 10 7) r (mx_G r (t_Mo_write zz)) 3 ls st h c n := mx_G_eq (tm_Mo_write zz) r 3 ls st h c n
theorem st_Mo_write_6 (zz : Nat × Nat) (r : mx_T) (ls : mx_L) (st : List Value) (h : mx_H) (c n : Nat) : mx_G r (t_Mo_write zz) 6 ls st h c n = (o_push 1 (.int 1)) r (mx_G r (t_Mo_write zz)) 6 ls st h c n := mx_G_eq (tm_Mo_write zz) r 6 ls st h c n
theorem st_Mo_write_7 (zz : Nat × Nat) (r : mx_T) (ls : mx_L) (st : List Value) (h : mx_H) (c n : Nat) : mx_G r (t_Mo_write zz) 7 ls st h c n = (o_ii (fun x y => x - y)) r (mx_G r (t_Mo_write zz)) 7 ls st h c n := mx_G_eq (tm_Mo_write zz) r 7 ls st h c n
theorem st_Mo_write_8 (zz : Nat × Nat) (r : mx_T) (ls : mx_L) (st : List Value) (h : mx_H) (c n : Nat) : mx_G r (t_Mo_write zz) 8 ls st h c n = (o_call 0 0 3 0 0 (fun _ _ => True) (S_Mo_within zz)) r (mx_G r (t_Mo_write zz)) 8 ls st h c n := mx_G_eq (tm_Mo_write zz) r 8 ls st h c n
theorem st_Mo_write_11 (zz : Nat × Nat) (r : mx_T) (ls : mx_L) (st : List Value) (h : mx_H) (c n : Nat) : mx_G r (t_Mo_write zz) 11 ls st h c n = (o_if 32 (fun x => x = 0)) r (mx_G r (t_Mo_write zz)) 11 ls st h c n := mx_G_eq (tm_Mo_write zz) r 11 ls st h c n
theorem st_Mo_write_14 (zz : Nat × Nat) (r : mx_T) (ls : mx_L) (st : List Value) (h : mx_H) (c n : Nat) : mx_G r (t_Mo_write zz) 14 ls st h c n = (o_iload 1 2) r (mx_G r (t_Mo_write zz)) 14 ls st h c n := mx_G_eq (tm_Mo_write zz) r 14 ls st h c n
theorem st_Mo_write_15 (zz : Nat × Nat) (r : mx_T) (ls : mx_L) (st : List Value) (h : mx_H) (c n : Nat) : mx_G r (t_Mo_write zz) 15 ls st h c n = (o_push 1 (.int 0)) r (mx_G r (t_Mo_write zz)) 15 ls st h c n := mx_G_eq (tm_Mo_write zz) r 15 ls st h c n
theorem st_Mo_write_16 (zz : Nat × Nat) (r : mx_T) (ls : mx_L) (st : List Value) (h : mx_H) (c n : Nat) : mx_G r (t_Mo_write zz) 16 ls st h c n = (o_push 1 (.int 1)) r (mx_G r (t_Mo_write zz)) 16 ls st h c n := mx_G_eq (tm_Mo_write zz) r 16 ls st h c n
theorem st_Mo_write_17 (zz : Nat × Nat) (r : mx_T) (ls : mx_L) (st : List Value) (h : mx_H) (c n : Nat) : mx_G r (t_Mo_write zz) 17 ls st h c n = (o_aload 1 0) r (mx_G r (t_Mo_write zz)) 17 ls st h c n := mx_G_eq (tm_Mo_write zz) r 17 ls st h c n
theorem st_Mo_write_18 (zz : Nat × Nat) (r : mx_T) (ls : mx_L) (st : List Value) (h : mx_H) (c n : Nat) : mx_G r (t_Mo_write zz) 18 ls st h c n = (o_get 10 10) r (mx_G r (t_Mo_write zz)) 18 ls st h c n := mx_G_eq (tm_Mo_write zz) r 18 ls st h c n
theorem st_Mo_write_21 (zz : Nat × Nat) (r : mx_T) (ls : mx_L) (st : List Value) (h : mx_H) (c n : Nat) : mx_G r (t_Mo_write zz) 21 ls st h c n = (o_iload 1 1) r (mx_G r (t_Mo_write zz)) 21 ls st h c n := mx_G_eq (tm_Mo_write zz) r 21 ls st h c n
theorem st_Mo_write_22 (zz : Nat × Nat) (r : mx_T) (ls : mx_L) (st : List Value) (h : mx_H) (c n : Nat) : mx_G r (t_Mo_write zz) 22 ls st h c n = (o_iald .int) r (mx_G r (t_Mo_write zz)) 22 ls st h c n := mx_G_eq (tm_Mo_write zz) r 22 ls st h c n
theorem st_Mo_write_23 (zz : Nat × Nat) (r : mx_T) (ls : mx_L) (st : List Value) (h : mx_H) (c n : Nat) : mx_G r (t_Mo_write zz) 23 ls st h c n = (o_ii (fun x y => x <<< (y &&& 31))) r (mx_G r (t_Mo_write zz)) 23 ls st h c n := mx_G_eq (tm_Mo_write zz) r 23 ls st h c n
theorem st_Mo_write_24 (zz : Nat × Nat) (r : mx_T) (ls : mx_L) (st : List Value) (h : mx_H) (c n : Nat) : mx_G r (t_Mo_write zz) 24 ls st h c n = (o_push 1 (.int 1)) r (mx_G r (t_Mo_write zz)) 24 ls st h c n := mx_G_eq (tm_Mo_write zz) r 24 ls st h c n
theorem st_Mo_write_25 (zz : Nat × Nat) (r : mx_T) (ls : mx_L) (st : List Value) (h : mx_H) (c n : Nat) : mx_G r (t_Mo_write zz) 25 ls st h c n = (o_ii (fun x y => x - y)) r (mx_G r (t_Mo_write zz)) 25 ls st h c n := mx_G_eq (tm_Mo_write zz) r 25 ls st h c n
theorem st_Mo_write_26 (zz : Nat × Nat) (r : mx_T) (ls : mx_L) (st : List Value) (h : mx_H) (c n : Nat) : mx_G r (t_Mo_write zz) 26 ls st h c n = (o_call 0 0 3 0 0 (fun _ _ => True) (S_Mo_within zz)) r (mx_G r (t_Mo_write zz)) 26 ls st h c n := mx_G_eq (tm_Mo_write zz) r 26 ls st h c n
theorem st_Mo_write_29 (zz : Nat × Nat) (r : mx_T) (ls : mx_L) (st : List Value) (h : mx_H) (c n : Nat) : mx_G r (t_Mo_write zz) 29 ls st h c n = (o_if 34 (fun x => ¬ x = 0)) r (mx_G r (t_Mo_write zz)) 29 ls st h c n := mx_G_eq (tm_Mo_write zz) r 29 ls st h c n
theorem st_Mo_write_32 (zz : Nat × Nat) (r : mx_T) (ls : mx_L) (st : List Value) (h : mx_H) (c n : Nat) : mx_G r (t_Mo_write zz) 32 ls st h c n = (o_push 1 (.int 0)) r (mx_G r (t_Mo_write zz)) 32 ls st h c n := mx_G_eq (tm_Mo_write zz) r 32 ls st h c n
theorem st_Mo_write_33 (zz : Nat × Nat) (r : mx_T) (ls : mx_L) (st : List Value) (h : mx_H) (c n : Nat) : mx_G r (t_Mo_write zz) 33 ls st h c n = (o_zret) r (mx_G r (t_Mo_write zz)) 33 ls st h c n := mx_G_eq (tm_Mo_write zz) r 33 ls st h c n
theorem st_Mo_write_34 (zz : Nat × Nat) (r : mx_T) (ls : mx_L) (st : List Value) (h : mx_H) (c n : Nat) : mx_G r (t_Mo_write zz) 34 ls st h c n = (o_aload 1 0) r (mx_G r (t_Mo_write zz)) 34 ls st h c n := mx_G_eq (tm_Mo_write zz) r 34 ls st h c n
theorem st_Mo_write_35 (zz : Nat × Nat) (r : mx_T) (ls : mx_L) (st : List Value) (h : mx_H) (c n : Nat) : mx_G r (t_Mo_write zz) 35 ls st h c n = (o_get 10 11) r (mx_G r (t_Mo_write zz)) 35 ls st h c n := mx_G_eq (tm_Mo_write zz) r 35 ls st h c n
theorem st_Mo_write_38 (zz : Nat × Nat) (r : mx_T) (ls : mx_L) (st : List Value) (h : mx_H) (c n : Nat) : mx_G r (t_Mo_write zz) 38 ls st h c n = (o_iload 1 1) r (mx_G r (t_Mo_write zz)) 38 ls st h c n := mx_G_eq (tm_Mo_write zz) r 38 ls st h c n
theorem st_Mo_write_39 (zz : Nat × Nat) (r : mx_T) (ls : mx_L) (st : List Value) (h : mx_H) (c n : Nat) : mx_G r (t_Mo_write zz) 39 ls st h c n = (o_iload 1 2) r (mx_G r (t_Mo_write zz)) 39 ls st h c n := mx_G_eq (tm_Mo_write zz) r 39 ls st h c n
theorem st_Mo_write_40 (zz : Nat × Nat) (r : mx_T) (ls : mx_L) (st : List Value) (h : mx_H) (c n : Nat) : mx_G r (t_Mo_write zz) 40 ls st h c n = (o_iast .int (fun x => x)) r (mx_G r (t_Mo_write zz)) 40 ls st h c n := mx_G_eq (tm_Mo_write zz) r 40 ls st h c n
theorem st_Mo_write_41 (zz : Nat × Nat) (r : mx_T) (ls : mx_L) (st : List Value) (h : mx_H) (c n : Nat) : mx_G r (t_Mo_write zz) 41 ls st h c n = (o_aload 1 0) r (mx_G r (t_Mo_write zz)) 41 ls st h c n := mx_G_eq (tm_Mo_write zz) r 41 ls st h c n
theorem st_Mo_write_42 (zz : Nat × Nat) (r : mx_T) (ls : mx_L) (st : List Value) (h : mx_H) (c n : Nat) : mx_G r (t_Mo_write zz) 42 ls st h c n = (o_get 10 5) r (mx_G r (t_Mo_write zz)) 42 ls st h c n := mx_G_eq (tm_Mo_write zz) r 42 ls st h c n
theorem st_Mo_write_45 (zz : Nat × Nat) (r : mx_T) (ls : mx_L) (st : List Value) (h : mx_H) (c n : Nat) : mx_G r (t_Mo_write zz) 45 ls st h c n = (o_aload 1 0) r (mx_G r (t_Mo_write zz)) 45 ls st h c n := mx_G_eq (tm_Mo_write zz) r 45 ls st h c n
theorem st_Mo_write_46 (zz : Nat × Nat) (r : mx_T) (ls : mx_L) (st : List Value) (h : mx_H) (c n : Nat) : mx_G r (t_Mo_write zz) 46 ls st h c n = (o_get 10 8) r (mx_G r (t_Mo_write zz)) 46 ls st h c n := mx_G_eq (tm_Mo_write zz) r 46 ls st h c n
theorem st_Mo_write_49 (zz : Nat × Nat) (r : mx_T) (ls : mx_L) (st : List Value) (h : mx_H) (c n : Nat) : mx_G r (t_Mo_write zz) 49 ls st h c n = (o_iload 1 1) r (mx_G r (t_Mo_write zz)) 49 ls st h c n := mx_G_eq (tm_Mo_write zz) r 49 ls st h c n
theorem st_Mo_write_50 (zz : Nat × Nat) (r : mx_T) (ls : mx_L) (st : List Value) (h : mx_H) (c n : Nat) : mx_G r (t_Mo_write zz) 50 ls st h c n = (o_iald .int) r (mx_G r (t_Mo_write zz)) 50 ls st h c n := mx_G_eq (tm_Mo_write zz) r 50 ls st h c n
theorem st_Mo_write_51 (zz : Nat × Nat) (r : mx_T) (ls : mx_L) (st : List Value) (h : mx_H) (c n : Nat) : mx_G r (t_Mo_write zz) 51 ls st h c n = (o_push 1 (.int 1)) r (mx_G r (t_Mo_write zz)) 51 ls st h c n := mx_G_eq (tm_Mo_write zz) r 51 ls st h c n
theorem st_Mo_write_52 (zz : Nat × Nat) (r : mx_T) (ls : mx_L) (st : List Value) (h : mx_H) (c n : Nat) : mx_G r (t_Mo_write zz) 52 ls st h c n = (o_iast .boolean (vp_nar .boolean)) r (mx_G r (t_Mo_write zz)) 52 ls st h c n := mx_G_eq (tm_Mo_write zz) r 52 ls st h c n
theorem st_Mo_write_53 (zz : Nat × Nat) (r : mx_T) (ls : mx_L) (st : List Value) (h : mx_H) (c n : Nat) : mx_G r (t_Mo_write zz) 53 ls st h c n = (o_push 1 (.int 1)) r (mx_G r (t_Mo_write zz)) 53 ls st h c n := mx_G_eq (tm_Mo_write zz) r 53 ls st h c n
theorem st_Mo_write_54 (zz : Nat × Nat) (r : mx_T) (ls : mx_L) (st : List Value) (h : mx_H) (c n : Nat) : mx_G r (t_Mo_write zz) 54 ls st h c n = (o_zret) r (mx_G r (t_Mo_write zz)) 54 ls st h c n := mx_G_eq (tm_Mo_write zz) r 54 ls st h c n
theorem d_Mo_read_0 : decode c_Mo_read 0 = .ok (.iload_n 1, 1) := by decide +kernel
theorem d_Mo_read_1 : decode c_Mo_read 1 = .ok (.iconst 0, 1) := by decide +kernel
theorem d_Mo_read_2 : decode c_Mo_read 2 = .ok (.aload_n 0, 1) := by decide +kernel
theorem d_Mo_read_3 : decode c_Mo_read 3 = .ok (.getfield 99, 3) := by decide +kernel
theorem d_Mo_read_6 : decode c_Mo_read 6 = .ok (.iconst 1, 1) := by decide +kernel
theorem d_Mo_read_7 : decode c_Mo_read 7 = .ok (.isub, 1) := by decide +kernel
theorem d_Mo_read_8 : decode c_Mo_read 8 = .ok (.invokestatic 91, 3) := by decide +kernel
theorem d_Mo_read_11 : decode c_Mo_read 11 = .ok (.ifCond .eq 12, 3) := by decide +kernel
theorem d_Mo_read_14 : decode c_Mo_read 14 = .ok (.aload_n 0, 1) := by decide +kernel
theorem d_Mo_read_15 : decode c_Mo_read 15 = .ok (.getfield 41, 3) := by decide +kernel
theorem d_Mo_read_18 : decode c_Mo_read 18 = .ok (.iload_n 1, 1) := by decide +kernel
theorem d_Mo_read_19 : decode c_Mo_read 19 = .ok (.iaload, 1) := by decide +kernel
theorem d_Mo_read_20 : decode c_Mo_read 20 = .ok (.goto 4, 3) := by decide +kernel
theorem d_Mo_read_23 : decode c_Mo_read 23 = .ok (.iconst (-1), 1) := by decide +kernel
theorem d_Mo_read_24 : decode c_Mo_read 24 = .ok (.ireturn, 1) := by decide +kernel
def t_Mo_read (zz : Nat × Nat) : List (Nat × mx_O) := [(0, o_iload 1 1),
  (1, o_push 1 (.int 0)),
  (2, o_aload 1 0),
  (3, o_get 10 7),
  (6, o_push 1 (.int 1)),
  (7, o_ii (fun x y => x - y)),
  (8, o_call 0 0 3 0 0 (fun _ _ => True) (S_Mo_within zz)),
  (11, o_if 23 (fun x => x = 0)),
  (14, o_aload 1 0),
  (15, o_get 10 12),
  (18, o_iload 1 1),
  (19, o_iald .int),
  (20, o_goto 24),
  (23, o_push 1 (.int (-1))),
  (24, o_iret)]
set_option maxRecDepth 100000 in
theorem tm_Mo_read (zz : Nat × Nat) : mx_All (fun _ o => mx_Mono o) (t_Mo_read zz) := by
  refine mx_all_cons (mo_st) ?_
  refine mx_all_cons (mo_st) ?_
  refine mx_all_cons (mo_st) ?_
  refine mx_all_cons (mo_st) ?_
  refine mx_all_cons (mo_st) ?_
  refine mx_all_cons (mo_st) ?_
  refine mx_all_cons (mo_call (sm_Mo_within zz)) ?_
  refine mx_all_cons (mo_br) ?_
  refine mx_all_cons (mo_st) ?_
  refine mx_all_cons (mo_st) ?_
  refine mx_all_cons (mo_st) ?_
  refine mx_all_cons (mo_sc) ?_
  refine mx_all_cons (mo_st) ?_
  refine mx_all_cons (mo_st) ?_
  refine mx_all_cons (mo_ret) ?_
  exact mx_all_nil
def S_Mo_read (zz : Nat × Nat) : mx_Sp := mx_S 2 0 0 (t_Mo_read zz)
theorem sm_Mo_read (zz : Nat × Nat) : mx_SMono (S_Mo_read zz) := mx_S_mono (tm_Mo_read zz)
abbrev rm_Mo_read : Room := { frames := 1, cells := 0, slots := 0, locals := 22 }
set_option maxHeartbeats 4000000 in
set_option maxRecDepth 100000 in
theorem m_Mo_read (l : Launch) (zz : Nat × Nat) : mx_Met l y_Mo_read (wsOf y_Mo_read c_Mo_read 2 (some .int)) rm_Mo_read wcl (mx_Z zz) 0 0 (S_Mo_read zz) := by
  refine mx_met (cc := c_Mo_read) (ret := (some .int)) (by decide) rfl ?_
  intro p e s m args below meth c D A Post X hz hr hlk hnm
  have hm : ∀ w ∈ mw, w.before args s = true := fun w h => X.1.2.2.2.2 w (List.mem_cons_of_mem _ h)
  refine mx_all_cons (ok_iload (fun hl kk => lv_iload_n X.1.1 X.1.2.1 d_Mo_read_0 rfl hl kk)) ?_
  refine mx_all_cons (ok_push (fun kk => lv_iconst X.1.1 X.1.2.1 d_Mo_read_1 (by decide) kk)) ?_
  refine mx_all_cons (ok_aload (fun hl kk => lv_aload_n X.1.1 X.1.2.1 d_Mo_read_2 rfl hl kk) (fun hl kk => lv_aload_nN X.1.1 X.1.2.1 d_Mo_read_2 rfl hl kk)) ?_
  refine mx_all_cons (ok_get (C := "HeaderScheduleModel") (T := T_Mo) (N := 40) X (mw_up in_Mo) rfl 7 (by decide) (hm _ w684) (fun _ h9 => h9) d_Mo_read_3) ?_
  refine mx_all_cons (ok_push (fun kk => lv_iconst X.1.1 X.1.2.1 d_Mo_read_6 (by decide) kk)) ?_
  refine mx_all_cons (ok_ii (fun kk => lv_isub X.1.1 X.1.2.1 d_Mo_read_7 kk)) ?_
  refine mx_all_cons (ok_callS X (mx_Zok_Z zz) hz ⟨(Nat.le_of_ble_eq_true rfl), (Nat.le_of_ble_eq_true rfl)⟩ (m_Mo_within l zz) ⟨mx_cwB 3 hm w804 w802 w40 rfl rfl (by decide +kernel) ⟨(Nat.le_of_ble_eq_true rfl), (Nat.le_of_ble_eq_true rfl)⟩, (hm _ w803)⟩ d_Mo_read_8) ?_
  refine mx_all_cons (ok_if (fun kt kf => lv_if_eq X.1.1 X.1.2.1 d_Mo_read_11 (by decide) kt kf)) ?_
  refine mx_all_cons (ok_aload (fun hl kk => lv_aload_n X.1.1 X.1.2.1 d_Mo_read_14 rfl hl kk) (fun hl kk => lv_aload_nN X.1.1 X.1.2.1 d_Mo_read_14 rfl hl kk)) ?_
  refine mx_all_cons (ok_get (C := "HeaderScheduleModel") (T := T_Mo) (N := 40) X (mw_up in_Mo) rfl 12 (by decide) (hm _ w689) (fun _ h9 => h9) d_Mo_read_15) ?_
  refine mx_all_cons (ok_iload (fun hl kk => lv_iload_n X.1.1 X.1.2.1 d_Mo_read_18 rfl hl kk)) ?_
  refine mx_all_cons (ok_iald X d_Mo_read_19) ?_
  refine mx_all_cons (ok_goto X d_Mo_read_20 (by decide)) ?_
  refine mx_all_cons (ok_push (fun kk => lv_iconst X.1.1 X.1.2.1 d_Mo_read_23 (by decide) kk)) ?_
  refine mx_all_cons (ok_iret X hr hlk d_Mo_read_24) ?_
  exact mx_all_nil
theorem st_Mo_read_0 (zz : Nat × Nat) (r : mx_T) (ls : mx_L) (st : List Value) (h : mx_H) (c n : Nat) : mx_G r (t_Mo_read zz) 0 ls st h c n = (o_iload 1 1) r (mx_G r (t_Mo_read zz)) 0 ls st h c n := mx_G_eq (tm_Mo_read zz) r 0 ls st h c n
theorem st_Mo_read_1 (zz : Nat × Nat) (r : mx_T) (ls : mx_L) (st : List Value) (h : mx_H) (c n : Nat) : mx_G r (t_Mo_read zz) 1 ls st h c n = (o_push 1 (.int 0)) r (mx_G r (t_Mo_read zz)) 1 ls st h c n := mx_G_eq (tm_Mo_read zz) r 1 ls st h c n
theorem st_Mo_read_2 (zz : Nat × Nat) (r : mx_T) (ls : mx_L) (st : List Value) (h : mx_H) (c n : Nat) : mx_G r (t_Mo_read zz) 2 ls st h c n = (o_aload 1 0) r (mx_G r (t_Mo_read zz)) 2 ls st h c n := mx_G_eq (tm_Mo_read zz) r 2 ls st h c n
theorem st_Mo_read_3 (zz : Nat × Nat) (r : mx_T) (ls : mx_L) (st : List Value) (h : mx_H) (c n : Nat) : mx_G r (t_Mo_read zz) 3 ls st h c n = (o_get 10 7) r (mx_G r (t_Mo_read zz)) 3 ls st h c n := mx_G_eq (tm_Mo_read zz) r 3 ls st h c n
theorem st_Mo_read_6 (zz : Nat × Nat) (r : mx_T) (ls : mx_L) (st : List Value) (h : mx_H) (c n : Nat) : mx_G r (t_Mo_read zz) 6 ls st h c n = (o_push 1 (.int 1)) r (mx_G r (t_Mo_read zz)) 6 ls st h c n := mx_G_eq (tm_Mo_read zz) r 6 ls st h c n
theorem st_Mo_read_7 (zz : Nat × Nat) (r : mx_T) (ls : mx_L) (st : List Value) (h : mx_H) (c n : Nat) : mx_G r (t_Mo_read zz) 7 ls st h c n = (o_ii (fun x y => x - y)) r (mx_G r (t_Mo_read zz)) 7 ls st h c n := mx_G_eq (tm_Mo_read zz) r 7 ls st h c n
theorem st_Mo_read_8 (zz : Nat × Nat) (r : mx_T) (ls : mx_L) (st : List Value) (h : mx_H) (c n : Nat) : mx_G r (t_Mo_read zz) 8 ls st h c n = (o_call 0 0 3 0 0 (fun _ _ => True) (S_Mo_within zz)) r (mx_G r (t_Mo_read zz)) 8 ls st h c n := mx_G_eq (tm_Mo_read zz) r 8 ls st h c n
theorem st_Mo_read_11 (zz : Nat × Nat) (r : mx_T) (ls : mx_L) (st : List Value) (h : mx_H) (c n : Nat) : mx_G r (t_Mo_read zz) 11 ls st h c n = (o_if 23 (fun x => x = 0)) r (mx_G r (t_Mo_read zz)) 11 ls st h c n := mx_G_eq (tm_Mo_read zz) r 11 ls st h c n
theorem st_Mo_read_14 (zz : Nat × Nat) (r : mx_T) (ls : mx_L) (st : List Value) (h : mx_H) (c n : Nat) : mx_G r (t_Mo_read zz) 14 ls st h c n = (o_aload 1 0) r (mx_G r (t_Mo_read zz)) 14 ls st h c n := mx_G_eq (tm_Mo_read zz) r 14 ls st h c n
theorem st_Mo_read_15 (zz : Nat × Nat) (r : mx_T) (ls : mx_L) (st : List Value) (h : mx_H) (c n : Nat) : mx_G r (t_Mo_read zz) 15 ls st h c n = (o_get 10 12) r (mx_G r (t_Mo_read zz)) 15 ls st h c n := mx_G_eq (tm_Mo_read zz) r 15 ls st h c n
theorem st_Mo_read_18 (zz : Nat × Nat) (r : mx_T) (ls : mx_L) (st : List Value) (h : mx_H) (c n : Nat) : mx_G r (t_Mo_read zz) 18 ls st h c n = (o_iload 1 1) r (mx_G r (t_Mo_read zz)) 18 ls st h c n := mx_G_eq (tm_Mo_read zz) r 18 ls st h c n
theorem st_Mo_read_19 (zz : Nat × Nat) (r : mx_T) (ls : mx_L) (st : List Value) (h : mx_H) (c n : Nat) : mx_G r (t_Mo_read zz) 19 ls st h c n = (o_iald .int) r (mx_G r (t_Mo_read zz)) 19 ls st h c n := mx_G_eq (tm_Mo_read zz) r 19 ls st h c n
theorem st_Mo_read_20 (zz : Nat × Nat) (r : mx_T) (ls : mx_L) (st : List Value) (h : mx_H) (c n : Nat) : mx_G r (t_Mo_read zz) 20 ls st h c n = (o_goto 24) r (mx_G r (t_Mo_read zz)) 20 ls st h c n := mx_G_eq (tm_Mo_read zz) r 20 ls st h c n
theorem st_Mo_read_23 (zz : Nat × Nat) (r : mx_T) (ls : mx_L) (st : List Value) (h : mx_H) (c n : Nat) : mx_G r (t_Mo_read zz) 23 ls st h c n = (o_push 1 (.int (-1))) r (mx_G r (t_Mo_read zz)) 23 ls st h c n := mx_G_eq (tm_Mo_read zz) r 23 ls st h c n
theorem st_Mo_read_24 (zz : Nat × Nat) (r : mx_T) (ls : mx_L) (st : List Value) (h : mx_H) (c n : Nat) : mx_G r (t_Mo_read zz) 24 ls st h c n = (o_iret) r (mx_G r (t_Mo_read zz)) 24 ls st h c n := mx_G_eq (tm_Mo_read zz) r 24 ls st h c n
theorem d_Mo_fresh_0 : decode c_Mo_fresh 0 = .ok (.iload_n 1, 1) := by decide +kernel
theorem d_Mo_fresh_1 : decode c_Mo_fresh 1 = .ok (.iconst 0, 1) := by decide +kernel
theorem d_Mo_fresh_2 : decode c_Mo_fresh 2 = .ok (.aload_n 0, 1) := by decide +kernel
theorem d_Mo_fresh_3 : decode c_Mo_fresh 3 = .ok (.getfield 99, 3) := by decide +kernel
theorem d_Mo_fresh_6 : decode c_Mo_fresh 6 = .ok (.iconst 1, 1) := by decide +kernel
theorem d_Mo_fresh_7 : decode c_Mo_fresh 7 = .ok (.isub, 1) := by decide +kernel
theorem d_Mo_fresh_8 : decode c_Mo_fresh 8 = .ok (.invokestatic 91, 3) := by decide +kernel
theorem d_Mo_fresh_11 : decode c_Mo_fresh 11 = .ok (.ifCond .ne 5, 3) := by decide +kernel
theorem d_Mo_fresh_14 : decode c_Mo_fresh 14 = .ok (.iconst 0, 1) := by decide +kernel
theorem d_Mo_fresh_15 : decode c_Mo_fresh 15 = .ok (.ireturn, 1) := by decide +kernel
theorem d_Mo_fresh_16 : decode c_Mo_fresh 16 = .ok (.aload_n 0, 1) := by decide +kernel
theorem d_Mo_fresh_17 : decode c_Mo_fresh 17 = .ok (.getfield 44, 3) := by decide +kernel
theorem d_Mo_fresh_20 : decode c_Mo_fresh 20 = .ok (.iload_n 1, 1) := by decide +kernel
theorem d_Mo_fresh_21 : decode c_Mo_fresh 21 = .ok (.baload, 1) := by decide +kernel
theorem d_Mo_fresh_22 : decode c_Mo_fresh 22 = .ok (.istore_n 2, 1) := by decide +kernel
theorem d_Mo_fresh_23 : decode c_Mo_fresh 23 = .ok (.aload_n 0, 1) := by decide +kernel
theorem d_Mo_fresh_24 : decode c_Mo_fresh 24 = .ok (.getfield 44, 3) := by decide +kernel
theorem d_Mo_fresh_27 : decode c_Mo_fresh 27 = .ok (.iload_n 1, 1) := by decide +kernel
theorem d_Mo_fresh_28 : decode c_Mo_fresh 28 = .ok (.iconst 0, 1) := by decide +kernel
theorem d_Mo_fresh_29 : decode c_Mo_fresh 29 = .ok (.bastore, 1) := by decide +kernel
theorem d_Mo_fresh_30 : decode c_Mo_fresh 30 = .ok (.iload_n 2, 1) := by decide +kernel
theorem d_Mo_fresh_31 : decode c_Mo_fresh 31 = .ok (.ireturn, 1) := by decide +kernel
def t_Mo_fresh (zz : Nat × Nat) : List (Nat × mx_O) := [(0, o_iload 1 1),
  (1, o_push 1 (.int 0)),
  (2, o_aload 1 0),
  (3, o_get 10 7),
  (6, o_push 1 (.int 1)),
  (7, o_ii (fun x y => x - y)),
  (8, o_call 0 0 3 0 0 (fun _ _ => True) (S_Mo_within zz)),
  (11, o_if 16 (fun x => ¬ x = 0)),
  (14, o_push 1 (.int 0)),
  (15, o_zret),
  (16, o_aload 1 0),
  (17, o_get 10 13),
  (20, o_iload 1 1),
  (21, o_iald .boolean),
  (22, o_istore 1 2),
  (23, o_aload 1 0),
  (24, o_get 10 13),
  (27, o_iload 1 1),
  (28, o_push 1 (.int 0)),
  (29, o_iast .boolean (vp_nar .boolean)),
  (30, o_iload 1 2),
  (31, o_zret)]
set_option maxRecDepth 100000 in
theorem tm_Mo_fresh (zz : Nat × Nat) : mx_All (fun _ o => mx_Mono o) (t_Mo_fresh zz) := by
  refine mx_all_cons (mo_st) ?_
  refine mx_all_cons (mo_st) ?_
  refine mx_all_cons (mo_st) ?_
  refine mx_all_cons (mo_st) ?_
  refine mx_all_cons (mo_st) ?_
  refine mx_all_cons (mo_st) ?_
  refine mx_all_cons (mo_call (sm_Mo_within zz)) ?_
  refine mx_all_cons (mo_br) ?_
  refine mx_all_cons (mo_st) ?_
  refine mx_all_cons (mo_zret) ?_
  refine mx_all_cons (mo_st) ?_
  refine mx_all_cons (mo_st) ?_
  refine mx_all_cons (mo_st) ?_
  refine mx_all_cons (mo_sc) ?_
  refine mx_all_cons (mo_st) ?_
  refine mx_all_cons (mo_st) ?_
  refine mx_all_cons (mo_st) ?_
  refine mx_all_cons (mo_st) ?_
  refine mx_all_cons (mo_st) ?_
  refine mx_all_cons (mo_sc) ?_
  refine mx_all_cons (mo_st) ?_
  refine mx_all_cons (mo_zret) ?_
  exact mx_all_nil
def S_Mo_fresh (zz : Nat × Nat) : mx_Sp := mx_S 3 0 0 (t_Mo_fresh zz)
theorem sm_Mo_fresh (zz : Nat × Nat) : mx_SMono (S_Mo_fresh zz) := mx_S_mono (tm_Mo_fresh zz)
abbrev rm_Mo_fresh : Room := { frames := 1, cells := 0, slots := 0, locals := 22 }
set_option maxHeartbeats 4000000 in
set_option maxRecDepth 100000 in
theorem m_Mo_fresh (l : Launch) (zz : Nat × Nat) : mx_Met l y_Mo_fresh (wsOf y_Mo_fresh c_Mo_fresh 3 (some .boolean)) rm_Mo_fresh wcl (mx_Z zz) 0 0 (S_Mo_fresh zz) := by
  refine mx_met (cc := c_Mo_fresh) (ret := (some .boolean)) (by decide) rfl ?_
  intro p e s m args below meth c D A Post X hz hr hlk hnm
  have hm : ∀ w ∈ mw, w.before args s = true := fun w h => X.1.2.2.2.2 w (List.mem_cons_of_mem _ h)
  refine mx_all_cons (ok_iload (fun hl kk => lv_iload_n X.1.1 X.1.2.1 d_Mo_fresh_0 rfl hl kk)) ?_
  refine mx_all_cons (ok_push (fun kk => lv_iconst X.1.1 X.1.2.1 d_Mo_fresh_1 (by decide) kk)) ?_
  refine mx_all_cons (ok_aload (fun hl kk => lv_aload_n X.1.1 X.1.2.1 d_Mo_fresh_2 rfl hl kk) (fun hl kk => lv_aload_nN X.1.1 X.1.2.1 d_Mo_fresh_2 rfl hl kk)) ?_
  refine mx_all_cons (ok_get (C := "HeaderScheduleModel") (T := T_Mo) (N := 40) X (mw_up in_Mo) rfl 7 (by decide) (hm _ w684) (fun _ h9 => h9) d_Mo_fresh_3) ?_
  refine mx_all_cons (ok_push (fun kk => lv_iconst X.1.1 X.1.2.1 d_Mo_fresh_6 (by decide) kk)) ?_
  refine mx_all_cons (ok_ii (fun kk => lv_isub X.1.1 X.1.2.1 d_Mo_fresh_7 kk)) ?_
  refine mx_all_cons (ok_callS X (mx_Zok_Z zz) hz ⟨(Nat.le_of_ble_eq_true rfl), (Nat.le_of_ble_eq_true rfl)⟩ (m_Mo_within l zz) ⟨mx_cwB 3 hm w804 w802 w40 rfl rfl (by decide +kernel) ⟨(Nat.le_of_ble_eq_true rfl), (Nat.le_of_ble_eq_true rfl)⟩, (hm _ w803)⟩ d_Mo_fresh_8) ?_
  refine mx_all_cons (ok_if (fun kt kf => lv_if_ne X.1.1 X.1.2.1 d_Mo_fresh_11 (by decide) kt (fun z => kf (fun g => g z)))) ?_
  refine mx_all_cons (ok_push (fun kk => lv_iconst X.1.1 X.1.2.1 d_Mo_fresh_14 (by decide) kk)) ?_
  refine mx_all_cons (ok_zret X hr hlk d_Mo_fresh_15) ?_
  refine mx_all_cons (ok_aload (fun hl kk => lv_aload_n X.1.1 X.1.2.1 d_Mo_fresh_16 rfl hl kk) (fun hl kk => lv_aload_nN X.1.1 X.1.2.1 d_Mo_fresh_16 rfl hl kk)) ?_
  refine mx_all_cons (ok_get (C := "HeaderScheduleModel") (T := T_Mo) (N := 40) X (mw_up in_Mo) rfl 13 (by decide) (hm _ w690) (fun _ h9 => h9) d_Mo_fresh_17) ?_
  refine mx_all_cons (ok_iload (fun hl kk => lv_iload_n X.1.1 X.1.2.1 d_Mo_fresh_20 rfl hl kk)) ?_
  refine mx_all_cons (ok_zald X d_Mo_fresh_21) ?_
  refine mx_all_cons (ok_istore (fun hl kk => lv_istore_n X.1.1 X.1.2.1 d_Mo_fresh_22 rfl hl (by decide) rfl kk)) ?_
  refine mx_all_cons (ok_aload (fun hl kk => lv_aload_n X.1.1 X.1.2.1 d_Mo_fresh_23 rfl hl kk) (fun hl kk => lv_aload_nN X.1.1 X.1.2.1 d_Mo_fresh_23 rfl hl kk)) ?_
  refine mx_all_cons (ok_get (C := "HeaderScheduleModel") (T := T_Mo) (N := 40) X (mw_up in_Mo) rfl 13 (by decide) (hm _ w690) (fun _ h9 => h9) d_Mo_fresh_24) ?_
  refine mx_all_cons (ok_iload (fun hl kk => lv_iload_n X.1.1 X.1.2.1 d_Mo_fresh_27 rfl hl kk)) ?_
  refine mx_all_cons (ok_push (fun kk => lv_iconst X.1.1 X.1.2.1 d_Mo_fresh_28 (by decide) kk)) ?_
  refine mx_all_cons (ok_zast X d_Mo_fresh_29) ?_
  refine mx_all_cons (ok_iload (fun hl kk => lv_iload_n X.1.1 X.1.2.1 d_Mo_fresh_30 rfl hl kk)) ?_
  refine mx_all_cons (ok_zret X hr hlk d_Mo_fresh_31) ?_
  exact mx_all_nil
theorem st_Mo_fresh_0 (zz : Nat × Nat) (r : mx_T) (ls : mx_L) (st : List Value) (h : mx_H) (c n : Nat) : mx_G r (t_Mo_fresh zz) 0 ls st h c n = (o_iload 1 1) r (mx_G r (t_Mo_fresh zz)) 0 ls st h c n := mx_G_eq (tm_Mo_fresh zz) r 0 ls st h c n
theorem st_Mo_fresh_1 (zz : Nat × Nat) (r : mx_T) (ls : mx_L) (st : List Value) (h : mx_H) (c n : Nat) : mx_G r (t_Mo_fresh zz) 1 ls st h c n = (o_push 1 (.int 0)) r (mx_G r (t_Mo_fresh zz)) 1 ls st h c n := mx_G_eq (tm_Mo_fresh zz) r 1 ls st h c n
theorem st_Mo_fresh_2 (zz : Nat × Nat) (r : mx_T) (ls : mx_L) (st : List Value) (h : mx_H) (c n : Nat) : mx_G r (t_Mo_fresh zz) 2 ls st h c n = (o_aload 1 0) r (mx_G r (t_Mo_fresh zz)) 2 ls st h c n := mx_G_eq (tm_Mo_fresh zz) r 2 ls st h c n
theorem st_Mo_fresh_3 (zz : Nat × Nat) (r : mx_T) (ls : mx_L) (st : List Value) (h : mx_H) (c n : Nat) : mx_G r (t_Mo_fresh zz) 3 ls st h c n = (o_get 10 7) r (mx_G r (t_Mo_fresh zz)) 3 ls st h c n := mx_G_eq (tm_Mo_fresh zz) r 3 ls st h c n
theorem st_Mo_fresh_6 (zz : Nat × Nat) (r : mx_T) (ls : mx_L) (st : List Value) (h : mx_H) (c n : Nat) : mx_G r (t_Mo_fresh zz) 6 ls st h c n = (o_push 1 (.int 1)) r (mx_G r (t_Mo_fresh zz)) 6 ls st h c n := mx_G_eq (tm_Mo_fresh zz) r 6 ls st h c n
theorem st_Mo_fresh_7 (zz : Nat × Nat) (r : mx_T) (ls : mx_L) (st : List Value) (h : mx_H) (c n : Nat) : mx_G r (t_Mo_fresh zz) 7 ls st h c n = (o_ii (fun x y => x - y)) r (mx_G r (t_Mo_fresh zz)) 7 ls st h c n := mx_G_eq (tm_Mo_fresh zz) r 7 ls st h c n
theorem st_Mo_fresh_8 (zz : Nat × Nat) (r : mx_T) (ls : mx_L) (st : List Value) (h : mx_H) (c n : Nat) : mx_G r (t_Mo_fresh zz) 8 ls st h c n = (o_call 0 0 3 0 0 (fun _ _ => True) (S_Mo_within zz)) r (mx_G r (t_Mo_fresh zz)) 8 ls st h c n := mx_G_eq (tm_Mo_fresh zz) r 8 ls st h c n
theorem st_Mo_fresh_11 (zz : Nat × Nat) (r : mx_T) (ls : mx_L) (st : List Value) (h : mx_H) (c n : Nat) : mx_G r (t_Mo_fresh zz) 11 ls st h c n = (o_if 16 (fun x => ¬ x = 0)) r (mx_G r (t_Mo_fresh zz)) 11 ls st h c n := mx_G_eq (tm_Mo_fresh zz) r 11 ls st h c n
theorem st_Mo_fresh_14 (zz : Nat × Nat) (r : mx_T) (ls : mx_L) (st : List Value) (h : mx_H) (c n : Nat) : mx_G r (t_Mo_fresh zz) 14 ls st h c n = (o_push 1 (.int 0)) r (mx_G r (t_Mo_fresh zz)) 14 ls st h c n := mx_G_eq (tm_Mo_fresh zz) r 14 ls st h c n
theorem st_Mo_fresh_15 (zz : Nat × Nat) (r : mx_T) (ls : mx_L) (st : List Value) (h : mx_H) (c n : Nat) : mx_G r (t_Mo_fresh zz) 15 ls st h c n = (o_zret) r (mx_G r (t_Mo_fresh zz)) 15 ls st h c n := mx_G_eq (tm_Mo_fresh zz) r 15 ls st h c n
theorem st_Mo_fresh_16 (zz : Nat × Nat) (r : mx_T) (ls : mx_L) (st : List Value) (h : mx_H) (c n : Nat) : mx_G r (t_Mo_fresh zz) 16 ls st h c n = (o_aload 1 0) r (mx_G r (t_Mo_fresh zz)) 16 ls st h c n := mx_G_eq (tm_Mo_fresh zz) r 16 ls st h c n
theorem st_Mo_fresh_17 (zz : Nat × Nat) (r : mx_T) (ls : mx_L) (st : List Value) (h : mx_H) (c n : Nat) : mx_G r (t_Mo_fresh zz) 17 ls st h c n = (o_get 10 13) r (mx_G r (t_Mo_fresh zz)) 17 ls st h c n := mx_G_eq (tm_Mo_fresh zz) r 17 ls st h c n
theorem st_Mo_fresh_20 (zz : Nat × Nat) (r : mx_T) (ls : mx_L) (st : List Value) (h : mx_H) (c n : Nat) : mx_G r (t_Mo_fresh zz) 20 ls st h c n = (o_iload 1 1) r (mx_G r (t_Mo_fresh zz)) 20 ls st h c n := mx_G_eq (tm_Mo_fresh zz) r 20 ls st h c n
theorem st_Mo_fresh_21 (zz : Nat × Nat) (r : mx_T) (ls : mx_L) (st : List Value) (h : mx_H) (c n : Nat) : mx_G r (t_Mo_fresh zz) 21 ls st h c n = (o_iald .boolean) r (mx_G r (t_Mo_fresh zz)) 21 ls st h c n := mx_G_eq (tm_Mo_fresh zz) r 21 ls st h c n
theorem st_Mo_fresh_22 (zz : Nat × Nat) (r : mx_T) (ls : mx_L) (st : List Value) (h : mx_H) (c n : Nat) : mx_G r (t_Mo_fresh zz) 22 ls st h c n = (o_istore 1 2) r (mx_G r (t_Mo_fresh zz)) 22 ls st h c n := mx_G_eq (tm_Mo_fresh zz) r 22 ls st h c n
theorem st_Mo_fresh_23 (zz : Nat × Nat) (r : mx_T) (ls : mx_L) (st : List Value) (h : mx_H) (c n : Nat) : mx_G r (t_Mo_fresh zz) 23 ls st h c n = (o_aload 1 0) r (mx_G r (t_Mo_fresh zz)) 23 ls st h c n := mx_G_eq (tm_Mo_fresh zz) r 23 ls st h c n
theorem st_Mo_fresh_24 (zz : Nat × Nat) (r : mx_T) (ls : mx_L) (st : List Value) (h : mx_H) (c n : Nat) : mx_G r (t_Mo_fresh zz) 24 ls st h c n = (o_get 10 13) r (mx_G r (t_Mo_fresh zz)) 24 ls st h c n := mx_G_eq (tm_Mo_fresh zz) r 24 ls st h c n
theorem st_Mo_fresh_27 (zz : Nat × Nat) (r : mx_T) (ls : mx_L) (st : List Value) (h : mx_H) (c n : Nat) : mx_G r (t_Mo_fresh zz) 27 ls st h c n = (o_iload 1 1) r (mx_G r (t_Mo_fresh zz)) 27 ls st h c n := mx_G_eq (tm_Mo_fresh zz) r 27 ls st h c n
theorem st_Mo_fresh_28 (zz : Nat × Nat) (r : mx_T) (ls : mx_L) (st : List Value) (h : mx_H) (c n : Nat) : mx_G r (t_Mo_fresh zz) 28 ls st h c n = (o_push 1 (.int 0)) r (mx_G r (t_Mo_fresh zz)) 28 ls st h c n := mx_G_eq (tm_Mo_fresh zz) r 28 ls st h c n
theorem st_Mo_fresh_29 (zz : Nat × Nat) (r : mx_T) (ls : mx_L) (st : List Value) (h : mx_H) (c n : Nat) : mx_G r (t_Mo_fresh zz) 29 ls st h c n = (o_iast .boolean (vp_nar .boolean)) r (mx_G r (t_Mo_fresh zz)) 29 ls st h c n := mx_G_eq (tm_Mo_fresh zz) r 29 ls st h c n
theorem st_Mo_fresh_30 (zz : Nat × Nat) (r : mx_T) (ls : mx_L) (st : List Value) (h : mx_H) (c n : Nat) : mx_G r (t_Mo_fresh zz) 30 ls st h c n = (o_iload 1 2) r (mx_G r (t_Mo_fresh zz)) 30 ls st h c n := mx_G_eq (tm_Mo_fresh zz) r 30 ls st h c n
theorem st_Mo_fresh_31 (zz : Nat × Nat) (r : mx_T) (ls : mx_L) (st : List Value) (h : mx_H) (c n : Nat) : mx_G r (t_Mo_fresh zz) 31 ls st h c n = (o_zret) r (mx_G r (t_Mo_fresh zz)) 31 ls st h c n := mx_G_eq (tm_Mo_fresh zz) r 31 ls st h c n
theorem d_Mo_pending_0 : decode c_Mo_pending 0 = .ok (.aload_n 0, 1) := by decide +kernel
theorem d_Mo_pending_1 : decode c_Mo_pending 1 = .ok (.iload_n 1, 1) := by decide +kernel
theorem d_Mo_pending_2 : decode c_Mo_pending 2 = .ok (.invokevirtual 112, 3) := by decide +kernel
theorem d_Mo_pending_5 : decode c_Mo_pending 5 = .ok (.ifCond .eq 16, 3) := by decide +kernel
theorem d_Mo_pending_8 : decode c_Mo_pending 8 = .ok (.aload_n 0, 1) := by decide +kernel
theorem d_Mo_pending_9 : decode c_Mo_pending 9 = .ok (.getfield 23, 3) := by decide +kernel
theorem d_Mo_pending_12 : decode c_Mo_pending 12 = .ok (.iload_n 1, 1) := by decide +kernel
theorem d_Mo_pending_13 : decode c_Mo_pending 13 = .ok (.baload, 1) := by decide +kernel
theorem d_Mo_pending_14 : decode c_Mo_pending 14 = .ok (.ifCond .eq 7, 3) := by decide +kernel
theorem d_Mo_pending_17 : decode c_Mo_pending 17 = .ok (.iconst 1, 1) := by decide +kernel
theorem d_Mo_pending_18 : decode c_Mo_pending 18 = .ok (.goto 4, 3) := by decide +kernel
theorem d_Mo_pending_21 : decode c_Mo_pending 21 = .ok (.iconst 0, 1) := by decide +kernel
theorem d_Mo_pending_22 : decode c_Mo_pending 22 = .ok (.ireturn, 1) := by decide +kernel
def t_Mo_pending (zz : Nat × Nat) : List (Nat × mx_O) := [(0, o_aload 1 0),
  (1, o_iload 1 1),
  (2, o_call 0 0 2 0 0 (mx_rv 10) (S_Mo_exists zz)),
  (5, o_if 21 (fun x => x = 0)),
  (8, o_aload 1 0),
  (9, o_get 10 5),
  (12, o_iload 1 1),
  (13, o_iald .boolean),
  (14, o_if 21 (fun x => x = 0)),
  (17, o_push 1 (.int 1)),
  (18, o_goto 22),
  (21, o_push 1 (.int 0)),
  (22, o_zret)]
set_option maxRecDepth 100000 in
theorem tm_Mo_pending (zz : Nat × Nat) : mx_All (fun _ o => mx_Mono o) (t_Mo_pending zz) := by
  refine mx_all_cons (mo_st) ?_
  refine mx_all_cons (mo_st) ?_
  refine mx_all_cons (mo_call (sm_Mo_exists zz)) ?_
  refine mx_all_cons (mo_br) ?_
  refine mx_all_cons (mo_st) ?_
  refine mx_all_cons (mo_st) ?_
  refine mx_all_cons (mo_st) ?_
  refine mx_all_cons (mo_sc) ?_
  refine mx_all_cons (mo_br) ?_
  refine mx_all_cons (mo_st) ?_
  refine mx_all_cons (mo_st) ?_
  refine mx_all_cons (mo_st) ?_
  refine mx_all_cons (mo_zret) ?_
  exact mx_all_nil
def S_Mo_pending (zz : Nat × Nat) : mx_Sp := mx_S 2 0 0 (t_Mo_pending zz)
theorem sm_Mo_pending (zz : Nat × Nat) : mx_SMono (S_Mo_pending zz) := mx_S_mono (tm_Mo_pending zz)
abbrev rm_Mo_pending : Room := { frames := 2, cells := 0, slots := 0, locals := 43 }
set_option maxHeartbeats 4000000 in
set_option maxRecDepth 100000 in
theorem m_Mo_pending (l : Launch) (zz : Nat × Nat) : mx_Met l y_Mo_pending (wsOf y_Mo_pending c_Mo_pending 2 (some .boolean)) rm_Mo_pending wcl (mx_Z zz) 0 0 (S_Mo_pending zz) := by
  refine mx_met (cc := c_Mo_pending) (ret := (some .boolean)) (by decide) rfl ?_
  intro p e s m args below meth c D A Post X hz hr hlk hnm
  have hm : ∀ w ∈ mw, w.before args s = true := fun w h => X.1.2.2.2.2 w (List.mem_cons_of_mem _ h)
  refine mx_all_cons (ok_aload (fun hl kk => lv_aload_n X.1.1 X.1.2.1 d_Mo_pending_0 rfl hl kk) (fun hl kk => lv_aload_nN X.1.1 X.1.2.1 d_Mo_pending_0 rfl hl kk)) ?_
  refine mx_all_cons (ok_iload (fun hl kk => lv_iload_n X.1.1 X.1.2.1 d_Mo_pending_1 rfl hl kk)) ?_
  refine mx_all_cons (ok_callV (C := "HeaderScheduleModel") (T := T_Mo) (N := 40) X (mx_Zok_Z zz) hz ⟨(Nat.le_of_ble_eq_true rfl), (Nat.le_of_ble_eq_true rfl)⟩ (m_Mo_exists l zz) ⟨mx_cwB 1 hm w828 w825 w40 rfl rfl (by decide +kernel) ⟨(Nat.le_of_ble_eq_true rfl), (Nat.le_of_ble_eq_true rfl)⟩, (hm _ w827), hm _ w19⟩ rfl d_Mo_pending_2) ?_
  refine mx_all_cons (ok_if (fun kt kf => lv_if_eq X.1.1 X.1.2.1 d_Mo_pending_5 (by decide) kt kf)) ?_
  refine mx_all_cons (ok_aload (fun hl kk => lv_aload_n X.1.1 X.1.2.1 d_Mo_pending_8 rfl hl kk) (fun hl kk => lv_aload_nN X.1.1 X.1.2.1 d_Mo_pending_8 rfl hl kk)) ?_
  refine mx_all_cons (ok_get (C := "HeaderScheduleModel") (T := T_Mo) (N := 40) X (mw_up in_Mo) rfl 5 (by decide) (hm _ w682) (fun _ h9 => h9) d_Mo_pending_9) ?_
  refine mx_all_cons (ok_iload (fun hl kk => lv_iload_n X.1.1 X.1.2.1 d_Mo_pending_12 rfl hl kk)) ?_
  refine mx_all_cons (ok_zald X d_Mo_pending_13) ?_
  refine mx_all_cons (ok_if (fun kt kf => lv_if_eq X.1.1 X.1.2.1 d_Mo_pending_14 (by decide) kt kf)) ?_
  refine mx_all_cons (ok_push (fun kk => lv_iconst X.1.1 X.1.2.1 d_Mo_pending_17 (by decide) kk)) ?_
  refine mx_all_cons (ok_goto X d_Mo_pending_18 (by decide)) ?_
  refine mx_all_cons (ok_push (fun kk => lv_iconst X.1.1 X.1.2.1 d_Mo_pending_21 (by decide) kk)) ?_
  refine mx_all_cons (ok_zret X hr hlk d_Mo_pending_22) ?_
  exact mx_all_nil
theorem st_Mo_pending_0 (zz : Nat × Nat) (r : mx_T) (ls : mx_L) (st : List Value) (h : mx_H) (c n : Nat) : mx_G r (t_Mo_pending zz) 0 ls st h c n = (o_aload 1 0) r (mx_G r (t_Mo_pending zz)) 0 ls st h c n := mx_G_eq (tm_Mo_pending zz) r 0 ls st h c n
theorem st_Mo_pending_1 (zz : Nat × Nat) (r : mx_T) (ls : mx_L) (st : List Value) (h : mx_H) (c n : Nat) : mx_G r (t_Mo_pending zz) 1 ls st h c n = (o_iload 1 1) r (mx_G r (t_Mo_pending zz)) 1 ls st h c n := mx_G_eq (tm_Mo_pending zz) r 1 ls st h c n
theorem st_Mo_pending_2 (zz : Nat × Nat) (r : mx_T) (ls : mx_L) (st : List Value) (h : mx_H) (c n : Nat) : mx_G r (t_Mo_pending zz) 2 ls st h c n = (o_call 0 0 2 0 0 (mx_rv 10) (S_Mo_exists zz)) r (mx_G r (t_Mo_pending zz)) 2 ls st h c n := mx_G_eq (tm_Mo_pending zz) r 2 ls st h c n
theorem st_Mo_pending_5 (zz : Nat × Nat) (r : mx_T) (ls : mx_L) (st : List Value) (h : mx_H) (c n : Nat) : mx_G r (t_Mo_pending zz) 5 ls st h c n = (o_if 21 (fun x => x = 0)) r (mx_G r (t_Mo_pending zz)) 5 ls st h c n := mx_G_eq (tm_Mo_pending zz) r 5 ls st h c n
theorem st_Mo_pending_8 (zz : Nat × Nat) (r : mx_T) (ls : mx_L) (st : List Value) (h : mx_H) (c n : Nat) : mx_G r (t_Mo_pending zz) 8 ls st h c n = (o_aload 1 0) r (mx_G r (t_Mo_pending zz)) 8 ls st h c n := mx_G_eq (tm_Mo_pending zz) r 8 ls st h c n
theorem st_Mo_pending_9 (zz : Nat × Nat) (r : mx_T) (ls : mx_L) (st : List Value) (h : mx_H) (c n : Nat) : mx_G r (t_Mo_pending zz) 9 ls st h c n = (o_get 10 5) r (mx_G r (t_Mo_pending zz)) 9 ls st h c n := mx_G_eq (tm_Mo_pending zz) r 9 ls st h c n
theorem st_Mo_pending_12 (zz : Nat × Nat) (r : mx_T) (ls : mx_L) (st : List Value) (h : mx_H) (c n : Nat) : mx_G r (t_Mo_pending zz) 12 ls st h c n = (o_iload 1 1) r (mx_G r (t_Mo_pending zz)) 12 ls st h c n := mx_G_eq (tm_Mo_pending zz) r 12 ls st h c n
theorem st_Mo_pending_13 (zz : Nat × Nat) (r : mx_T) (ls : mx_L) (st : List Value) (h : mx_H) (c n : Nat) : mx_G r (t_Mo_pending zz) 13 ls st h c n = (o_iald .boolean) r (mx_G r (t_Mo_pending zz)) 13 ls st h c n := mx_G_eq (tm_Mo_pending zz) r 13 ls st h c n
theorem st_Mo_pending_14 (zz : Nat × Nat) (r : mx_T) (ls : mx_L) (st : List Value) (h : mx_H) (c n : Nat) : mx_G r (t_Mo_pending zz) 14 ls st h c n = (o_if 21 (fun x => x = 0)) r (mx_G r (t_Mo_pending zz)) 14 ls st h c n := mx_G_eq (tm_Mo_pending zz) r 14 ls st h c n
theorem st_Mo_pending_17 (zz : Nat × Nat) (r : mx_T) (ls : mx_L) (st : List Value) (h : mx_H) (c n : Nat) : mx_G r (t_Mo_pending zz) 17 ls st h c n = (o_push 1 (.int 1)) r (mx_G r (t_Mo_pending zz)) 17 ls st h c n := mx_G_eq (tm_Mo_pending zz) r 17 ls st h c n
theorem st_Mo_pending_18 (zz : Nat × Nat) (r : mx_T) (ls : mx_L) (st : List Value) (h : mx_H) (c n : Nat) : mx_G r (t_Mo_pending zz) 18 ls st h c n = (o_goto 22) r (mx_G r (t_Mo_pending zz)) 18 ls st h c n := mx_G_eq (tm_Mo_pending zz) r 18 ls st h c n
theorem st_Mo_pending_21 (zz : Nat × Nat) (r : mx_T) (ls : mx_L) (st : List Value) (h : mx_H) (c n : Nat) : mx_G r (t_Mo_pending zz) 21 ls st h c n = (o_push 1 (.int 0)) r (mx_G r (t_Mo_pending zz)) 21 ls st h c n := mx_G_eq (tm_Mo_pending zz) r 21 ls st h c n
theorem st_Mo_pending_22 (zz : Nat × Nat) (r : mx_T) (ls : mx_L) (st : List Value) (h : mx_H) (c n : Nat) : mx_G r (t_Mo_pending zz) 22 ls st h c n = (o_zret) r (mx_G r (t_Mo_pending zz)) 22 ls st h c n := mx_G_eq (tm_Mo_pending zz) r 22 ls st h c n
theorem d_Mo_request_0 : decode c_Mo_request 0 = .ok (.aload_n 0, 1) := by decide +kernel
theorem d_Mo_request_1 : decode c_Mo_request 1 = .ok (.getfield 87, 3) := by decide +kernel
theorem d_Mo_request_4 : decode c_Mo_request 4 = .ok (.ifCond .eq 21, 3) := by decide +kernel
theorem d_Mo_request_7 : decode c_Mo_request 7 = .ok (.iload_n 1, 1) := by decide +kernel
theorem d_Mo_request_8 : decode c_Mo_request 8 = .ok (.iconst 0, 1) := by decide +kernel
theorem d_Mo_request_9 : decode c_Mo_request 9 = .ok (.iconst 2, 1) := by decide +kernel
theorem d_Mo_request_10 : decode c_Mo_request 10 = .ok (.invokestatic 91, 3) := by decide +kernel
theorem d_Mo_request_13 : decode c_Mo_request 13 = .ok (.ifCond .eq 12, 3) := by decide +kernel
theorem d_Mo_request_16 : decode c_Mo_request 16 = .ok (.aload_n 0, 1) := by decide +kernel
theorem d_Mo_request_17 : decode c_Mo_request 17 = .ok (.getfield 59, 3) := by decide +kernel
theorem d_Mo_request_20 : decode c_Mo_request 20 = .ok (.iload_n 1, 1) := by decide +kernel
theorem d_Mo_request_21 : decode c_Mo_request 21 = .ok (.iaload, 1) := by decide +kernel
theorem d_Mo_request_22 : decode c_Mo_request 22 = .ok (.ifCond .ne 5, 3) := by decide +kernel
theorem d_Mo_request_25 : decode c_Mo_request 25 = .ok (.iconst 0, 1) := by decide +kernel
theorem d_Mo_request_26 : decode c_Mo_request 26 = .ok (.ireturn, 1) := by decide +kernel
theorem d_Mo_request_27 : decode c_Mo_request 27 = .ok (.aload_n 0, 1) := by decide +kernel
theorem d_Mo_request_28 : decode c_Mo_request 28 = .ok (.iload_n 1, 1) := by decide +kernel
theorem d_Mo_request_29 : decode c_Mo_request 29 = .ok (.putfield 71, 3) := by decide +kernel
theorem d_Mo_request_32 : decode c_Mo_request 32 = .ok (.iconst 1, 1) := by decide +kernel
theorem d_Mo_request_33 : decode c_Mo_request 33 = .ok (.ireturn, 1) := by decide +kernel
def t_Mo_request (zz : Nat × Nat) : List (Nat × mx_O) := [(0, o_aload 1 0),
  (1, o_get 10 24),
  (4, o_if 25 (fun x => x = 0)),
  (7, o_iload 1 1),
  (8, o_push 1 (.int 0)),
  (9, o_push 1 (.int 2)),
  (10, o_call 0 0 3 0 0 (fun _ _ => True) (S_Mo_within zz)),
  (13, o_if 25 (fun x => x = 0)),
  (16, o_aload 1 0),
  (17, o_get 10 20),
  (20, o_iload 1 1),
  (21, o_iald .int),
  (22, o_if 27 (fun x => ¬ x = 0)),
  (25, o_push 1 (.int 0)),
  (26, o_zret),
  (27, o_aload 1 0),
  (28, o_iload 1 1),
  (29, o_put 10 32 mx_vI),
  (32, o_push 1 (.int 1)),
  (33, o_zret)]
set_option maxRecDepth 100000 in
theorem tm_Mo_request (zz : Nat × Nat) : mx_All (fun _ o => mx_Mono o) (t_Mo_request zz) := by
  refine mx_all_cons (mo_st) ?_
  refine mx_all_cons (mo_st) ?_
  refine mx_all_cons (mo_br) ?_
  refine mx_all_cons (mo_st) ?_
  refine mx_all_cons (mo_st) ?_
  refine mx_all_cons (mo_st) ?_
  refine mx_all_cons (mo_call (sm_Mo_within zz)) ?_
  refine mx_all_cons (mo_br) ?_
  refine mx_all_cons (mo_st) ?_
  refine mx_all_cons (mo_st) ?_
  refine mx_all_cons (mo_st) ?_
  refine mx_all_cons (mo_sc) ?_
  refine mx_all_cons (mo_br) ?_
  refine mx_all_cons (mo_st) ?_
  refine mx_all_cons (mo_zret) ?_
  refine mx_all_cons (mo_st) ?_
  refine mx_all_cons (mo_st) ?_
  refine mx_all_cons (mo_sc) ?_
  refine mx_all_cons (mo_st) ?_
  refine mx_all_cons (mo_zret) ?_
  exact mx_all_nil
def S_Mo_request (zz : Nat × Nat) : mx_Sp := mx_S 2 0 0 (t_Mo_request zz)
theorem sm_Mo_request (zz : Nat × Nat) : mx_SMono (S_Mo_request zz) := mx_S_mono (tm_Mo_request zz)
abbrev rm_Mo_request : Room := { frames := 1, cells := 0, slots := 0, locals := 22 }
set_option maxHeartbeats 4000000 in
set_option maxRecDepth 100000 in
theorem m_Mo_request (l : Launch) (zz : Nat × Nat) : mx_Met l y_Mo_request (wsOf y_Mo_request c_Mo_request 2 (some .boolean)) rm_Mo_request wcl (mx_Z zz) 0 0 (S_Mo_request zz) := by
  refine mx_met (cc := c_Mo_request) (ret := (some .boolean)) (by decide) rfl ?_
  intro p e s m args below meth c D A Post X hz hr hlk hnm
  have hm : ∀ w ∈ mw, w.before args s = true := fun w h => X.1.2.2.2.2 w (List.mem_cons_of_mem _ h)
  refine mx_all_cons (ok_aload (fun hl kk => lv_aload_n X.1.1 X.1.2.1 d_Mo_request_0 rfl hl kk) (fun hl kk => lv_aload_nN X.1.1 X.1.2.1 d_Mo_request_0 rfl hl kk)) ?_
  refine mx_all_cons (ok_get (C := "HeaderScheduleModel") (T := T_Mo) (N := 40) X (mw_up in_Mo) rfl 24 (by decide) (hm _ w701) (fun _ h9 => h9) d_Mo_request_1) ?_
  refine mx_all_cons (ok_if (fun kt kf => lv_if_eq X.1.1 X.1.2.1 d_Mo_request_4 (by decide) kt kf)) ?_
  refine mx_all_cons (ok_iload (fun hl kk => lv_iload_n X.1.1 X.1.2.1 d_Mo_request_7 rfl hl kk)) ?_
  refine mx_all_cons (ok_push (fun kk => lv_iconst X.1.1 X.1.2.1 d_Mo_request_8 (by decide) kk)) ?_
  refine mx_all_cons (ok_push (fun kk => lv_iconst X.1.1 X.1.2.1 d_Mo_request_9 (by decide) kk)) ?_
  refine mx_all_cons (ok_callS X (mx_Zok_Z zz) hz ⟨(Nat.le_of_ble_eq_true rfl), (Nat.le_of_ble_eq_true rfl)⟩ (m_Mo_within l zz) ⟨mx_cwB 3 hm w804 w802 w40 rfl rfl (by decide +kernel) ⟨(Nat.le_of_ble_eq_true rfl), (Nat.le_of_ble_eq_true rfl)⟩, (hm _ w803)⟩ d_Mo_request_10) ?_
  refine mx_all_cons (ok_if (fun kt kf => lv_if_eq X.1.1 X.1.2.1 d_Mo_request_13 (by decide) kt kf)) ?_
  refine mx_all_cons (ok_aload (fun hl kk => lv_aload_n X.1.1 X.1.2.1 d_Mo_request_16 rfl hl kk) (fun hl kk => lv_aload_nN X.1.1 X.1.2.1 d_Mo_request_16 rfl hl kk)) ?_
  refine mx_all_cons (ok_get (C := "HeaderScheduleModel") (T := T_Mo) (N := 40) X (mw_up in_Mo) rfl 20 (by decide) (hm _ w697) (fun _ h9 => h9) d_Mo_request_17) ?_
  refine mx_all_cons (ok_iload (fun hl kk => lv_iload_n X.1.1 X.1.2.1 d_Mo_request_20 rfl hl kk)) ?_
  refine mx_all_cons (ok_iald X d_Mo_request_21) ?_
  refine mx_all_cons (ok_if (fun kt kf => lv_if_ne X.1.1 X.1.2.1 d_Mo_request_22 (by decide) kt (fun z => kf (fun g => g z)))) ?_
  refine mx_all_cons (ok_push (fun kk => lv_iconst X.1.1 X.1.2.1 d_Mo_request_25 (by decide) kk)) ?_
  refine mx_all_cons (ok_zret X hr hlk d_Mo_request_26) ?_
  refine mx_all_cons (ok_aload (fun hl kk => lv_aload_n X.1.1 X.1.2.1 d_Mo_request_27 rfl hl kk) (fun hl kk => lv_aload_nN X.1.1 X.1.2.1 d_Mo_request_27 rfl hl kk)) ?_
  refine mx_all_cons (ok_iload (fun hl kk => lv_iload_n X.1.1 X.1.2.1 d_Mo_request_28 rfl hl kk)) ?_
  refine mx_all_cons (ok_put (C := "HeaderScheduleModel") (T := T_Mo) (N := 40) X (mw_up in_Mo) ty_Mo tyok_Mo nm_Mo rfl 32 (by decide) (hm _ w709) (fun _ h9 => h9) rfl (tyok_Mo 32 (by decide)) mx_vI_ok d_Mo_request_29) ?_
  refine mx_all_cons (ok_push (fun kk => lv_iconst X.1.1 X.1.2.1 d_Mo_request_32 (by decide) kk)) ?_
  refine mx_all_cons (ok_zret X hr hlk d_Mo_request_33) ?_
  exact mx_all_nil
theorem st_Mo_request_0 (zz : Nat × Nat) (r : mx_T) (ls : mx_L) (st : List Value) (h : mx_H) (c n : Nat) : mx_G r (t_Mo_request zz) 0 ls st h c n = (o_aload 1 0) r (mx_G r (t_Mo_request zz)) 0 ls st h c n := mx_G_eq (tm_Mo_request zz) r 0 ls st h c n
theorem st_Mo_request_1 (zz : Nat × Nat) (r : mx_T) (ls : mx_L) (st : List Value) (h : mx_H) (c n : Nat) : mx_G r (t_Mo_request zz) 1 ls st h c n = (o_get 10 24) r (mx_G r (t_Mo_request zz)) 1 ls st h c n := mx_G_eq (tm_Mo_request zz) r 1 ls st h c n
theorem st_Mo_request_4 (zz : Nat × Nat) (r : mx_T) (ls : mx_L) (st : List Value) (h : mx_H) (c n : Nat) : mx_G r (t_Mo_request zz) 4 ls st h c n = (o_if 25 (fun x => x = 0)) r (mx_G r (t_Mo_request zz)) 4 ls st h c n := mx_G_eq (tm_Mo_request zz) r 4 ls st h c n
theorem st_Mo_request_7 (zz : Nat × Nat) (r : mx_T) (ls : mx_L) (st : List Value) (h : mx_H) (c n : Nat) : mx_G r (t_Mo_request zz) 7 ls st h c n = (o_iload 1 1) r (mx_G r (t_Mo_request zz)) 7 ls st h c n := mx_G_eq (tm_Mo_request zz) r 7 ls st h c n
theorem st_Mo_request_8 (zz : Nat × Nat) (r : mx_T) (ls : mx_L) (st : List Value) (h : mx_H) (c n : Nat) : mx_G r (t_Mo_request zz) 8 ls st h c n = (o_push 1 (.int 0)) r (mx_G r (t_Mo_request zz)) 8 ls st h c n := mx_G_eq (tm_Mo_request zz) r 8 ls st h c n
theorem st_Mo_request_9 (zz : Nat × Nat) (r : mx_T) (ls : mx_L) (st : List Value) (h : mx_H) (c n : Nat) : mx_G r (t_Mo_request zz) 9 ls st h c n = (o_push 1 (.int 2)) r (mx_G r (t_Mo_request zz)) 9 ls st h c n := mx_G_eq (tm_Mo_request zz) r 9 ls st h c n
theorem st_Mo_request_10 (zz : Nat × Nat) (r : mx_T) (ls : mx_L) (st : List Value) (h : mx_H) (c n : Nat) : mx_G r (t_Mo_request zz) 10 ls st h c n = (o_call 0 0 3 0 0 (fun _ _ => True) (S_Mo_within zz)) r (mx_G r (t_Mo_request zz)) 10 ls st h c n := mx_G_eq (tm_Mo_request zz) r 10 ls st h c n
theorem st_Mo_request_13 (zz : Nat × Nat) (r : mx_T) (ls : mx_L) (st : List Value) (h : mx_H) (c n : Nat) : mx_G r (t_Mo_request zz) 13 ls st h c n = (o_if 25 (fun x => x = 0)) r (mx_G r (t_Mo_request zz)) 13 ls st h c n := mx_G_eq (tm_Mo_request zz) r 13 ls st h c n
theorem st_Mo_request_16 (zz : Nat × Nat) (r : mx_T) (ls : mx_L) (st : List Value) (h : mx_H) (c n : Nat) : mx_G r (t_Mo_request zz) 16 ls st h c n = (o_aload 1 0) r (mx_G r (t_Mo_request zz)) 16 ls st h c n := mx_G_eq (tm_Mo_request zz) r 16 ls st h c n
theorem st_Mo_request_17 (zz : Nat × Nat) (r : mx_T) (ls : mx_L) (st : List Value) (h : mx_H) (c n : Nat) : mx_G r (t_Mo_request zz) 17 ls st h c n = (o_get 10 20) r (mx_G r (t_Mo_request zz)) 17 ls st h c n := mx_G_eq (tm_Mo_request zz) r 17 ls st h c n
theorem st_Mo_request_20 (zz : Nat × Nat) (r : mx_T) (ls : mx_L) (st : List Value) (h : mx_H) (c n : Nat) : mx_G r (t_Mo_request zz) 20 ls st h c n = (o_iload 1 1) r (mx_G r (t_Mo_request zz)) 20 ls st h c n := mx_G_eq (tm_Mo_request zz) r 20 ls st h c n
theorem st_Mo_request_21 (zz : Nat × Nat) (r : mx_T) (ls : mx_L) (st : List Value) (h : mx_H) (c n : Nat) : mx_G r (t_Mo_request zz) 21 ls st h c n = (o_iald .int) r (mx_G r (t_Mo_request zz)) 21 ls st h c n := mx_G_eq (tm_Mo_request zz) r 21 ls st h c n
theorem st_Mo_request_22 (zz : Nat × Nat) (r : mx_T) (ls : mx_L) (st : List Value) (h : mx_H) (c n : Nat) : mx_G r (t_Mo_request zz) 22 ls st h c n = (o_if 27 (fun x => ¬ x = 0)) r (mx_G r (t_Mo_request zz)) 22 ls st h c n := mx_G_eq (tm_Mo_request zz) r 22 ls st h c n
theorem st_Mo_request_25 (zz : Nat × Nat) (r : mx_T) (ls : mx_L) (st : List Value) (h : mx_H) (c n : Nat) : mx_G r (t_Mo_request zz) 25 ls st h c n = (o_push 1 (.int 0)) r (mx_G r (t_Mo_request zz)) 25 ls st h c n := mx_G_eq (tm_Mo_request zz) r 25 ls st h c n
theorem st_Mo_request_26 (zz : Nat × Nat) (r : mx_T) (ls : mx_L) (st : List Value) (h : mx_H) (c n : Nat) : mx_G r (t_Mo_request zz) 26 ls st h c n = (o_zret) r (mx_G r (t_Mo_request zz)) 26 ls st h c n := mx_G_eq (tm_Mo_request zz) r 26 ls st h c n
theorem st_Mo_request_27 (zz : Nat × Nat) (r : mx_T) (ls : mx_L) (st : List Value) (h : mx_H) (c n : Nat) : mx_G r (t_Mo_request zz) 27 ls st h c n = (o_aload 1 0) r (mx_G r (t_Mo_request zz)) 27 ls st h c n := mx_G_eq (tm_Mo_request zz) r 27 ls st h c n
theorem st_Mo_request_28 (zz : Nat × Nat) (r : mx_T) (ls : mx_L) (st : List Value) (h : mx_H) (c n : Nat) : mx_G r (t_Mo_request zz) 28 ls st h c n = (o_iload 1 1) r (mx_G r (t_Mo_request zz)) 28 ls st h c n := mx_G_eq (tm_Mo_request zz) r 28 ls st h c n
theorem st_Mo_request_29 (zz : Nat × Nat) (r : mx_T) (ls : mx_L) (st : List Value) (h : mx_H) (c n : Nat) : mx_G r (t_Mo_request zz) 29 ls st h c n = (o_put 10 32 mx_vI) r (mx_G r (t_Mo_request zz)) 29 ls st h c n := mx_G_eq (tm_Mo_request zz) r 29 ls st h c n
theorem st_Mo_request_32 (zz : Nat × Nat) (r : mx_T) (ls : mx_L) (st : List Value) (h : mx_H) (c n : Nat) : mx_G r (t_Mo_request zz) 32 ls st h c n = (o_push 1 (.int 1)) r (mx_G r (t_Mo_request zz)) 32 ls st h c n := mx_G_eq (tm_Mo_request zz) r 32 ls st h c n
theorem st_Mo_request_33 (zz : Nat × Nat) (r : mx_T) (ls : mx_L) (st : List Value) (h : mx_H) (c n : Nat) : mx_G r (t_Mo_request zz) 33 ls st h c n = (o_zret) r (mx_G r (t_Mo_request zz)) 33 ls st h c n := mx_G_eq (tm_Mo_request zz) r 33 ls st h c n
theorem d_Mo_noise_0 : decode c_Mo_noise 0 = .ok (.iload_n 1, 1) := by decide +kernel
theorem d_Mo_noise_1 : decode c_Mo_noise 1 = .ok (.iconst 0, 1) := by decide +kernel
theorem d_Mo_noise_2 : decode c_Mo_noise 2 = .ok (.bipush 8, 2) := by decide +kernel
theorem d_Mo_noise_4 : decode c_Mo_noise 4 = .ok (.invokestatic 91, 3) := by decide +kernel
theorem d_Mo_noise_7 : decode c_Mo_noise 7 = .ok (.ifCond .eq 14, 3) := by decide +kernel
theorem d_Mo_noise_10 : decode c_Mo_noise 10 = .ok (.iload_n 2, 1) := by decide +kernel
theorem d_Mo_noise_11 : decode c_Mo_noise 11 = .ok (.iconst 1, 1) := by decide +kernel
theorem d_Mo_noise_12 : decode c_Mo_noise 12 = .ok (.sipush 255, 3) := by decide +kernel
theorem d_Mo_noise_15 : decode c_Mo_noise 15 = .ok (.invokestatic 91, 3) := by decide +kernel
theorem d_Mo_noise_18 : decode c_Mo_noise 18 = .ok (.ifCond .ne 5, 3) := by decide +kernel
theorem d_Mo_noise_21 : decode c_Mo_noise 21 = .ok (.iconst 0, 1) := by decide +kernel
theorem d_Mo_noise_22 : decode c_Mo_noise 22 = .ok (.ireturn, 1) := by decide +kernel
theorem d_Mo_noise_23 : decode c_Mo_noise 23 = .ok (.aload_n 0, 1) := by decide +kernel
theorem d_Mo_noise_24 : decode c_Mo_noise 24 = .ok (.iconst 1, 1) := by decide +kernel
theorem d_Mo_noise_25 : decode c_Mo_noise 25 = .ok (.putfield 130, 3) := by decide +kernel
theorem d_Mo_noise_28 : decode c_Mo_noise 28 = .ok (.aload_n 0, 1) := by decide +kernel
theorem d_Mo_noise_29 : decode c_Mo_noise 29 = .ok (.iload_n 1, 1) := by decide +kernel
theorem d_Mo_noise_30 : decode c_Mo_noise 30 = .ok (.putfield 133, 3) := by decide +kernel
theorem d_Mo_noise_33 : decode c_Mo_noise 33 = .ok (.aload_n 0, 1) := by decide +kernel
theorem d_Mo_noise_34 : decode c_Mo_noise 34 = .ok (.iload_n 2, 1) := by decide +kernel
theorem d_Mo_noise_35 : decode c_Mo_noise 35 = .ok (.putfield 136, 3) := by decide +kernel
theorem d_Mo_noise_38 : decode c_Mo_noise 38 = .ok (.iconst 1, 1) := by decide +kernel
theorem d_Mo_noise_39 : decode c_Mo_noise 39 = .ok (.ireturn, 1) := by decide +kernel
def t_Mo_noise (zz : Nat × Nat) : List (Nat × mx_O) := [(0, o_iload 1 1),
  (1, o_push 1 (.int 0)),
  (2, o_push 2 (.int 8)),
  (4, o_call 0 0 3 0 0 (fun _ _ => True) (S_Mo_within zz)),
  (7, o_if 21 (fun x => x = 0)),
  (10, o_iload 1 2),
  (11, o_push 1 (.int 1)),
  (12, o_push 3 (.int 255)),
  (15, o_call 0 0 3 0 0 (fun _ _ => True) (S_Mo_within zz)),
  (18, o_if 23 (fun x => ¬ x = 0)),
  (21, o_push 1 (.int 0)),
  (22, o_zret),
  (23, o_aload 1 0),
  (24, o_push 1 (.int 1)),
  (25, o_put 10 36 mx_vZ),
  (28, o_aload 1 0),
  (29, o_iload 1 1),
  (30, o_put 10 37 mx_vI),
  (33, o_aload 1 0),
  (34, o_iload 1 2),
  (35, o_put 10 38 mx_vI),
  (38, o_push 1 (.int 1)),
  (39, o_zret)]
set_option maxRecDepth 100000 in
theorem tm_Mo_noise (zz : Nat × Nat) : mx_All (fun _ o => mx_Mono o) (t_Mo_noise zz) := by
  refine mx_all_cons (mo_st) ?_
  refine mx_all_cons (mo_st) ?_
  refine mx_all_cons (mo_st) ?_
  refine mx_all_cons (mo_call (sm_Mo_within zz)) ?_
  refine mx_all_cons (mo_br) ?_
  refine mx_all_cons (mo_st) ?_
  refine mx_all_cons (mo_st) ?_
  refine mx_all_cons (mo_st) ?_
  refine mx_all_cons (mo_call (sm_Mo_within zz)) ?_
  refine mx_all_cons (mo_br) ?_
  refine mx_all_cons (mo_st) ?_
  refine mx_all_cons (mo_zret) ?_
  refine mx_all_cons (mo_st) ?_
  refine mx_all_cons (mo_st) ?_
  refine mx_all_cons (mo_sc) ?_
  refine mx_all_cons (mo_st) ?_
  refine mx_all_cons (mo_st) ?_
  refine mx_all_cons (mo_sc) ?_
  refine mx_all_cons (mo_st) ?_
  refine mx_all_cons (mo_st) ?_
  refine mx_all_cons (mo_sc) ?_
  refine mx_all_cons (mo_st) ?_
  refine mx_all_cons (mo_zret) ?_
  exact mx_all_nil
def S_Mo_noise (zz : Nat × Nat) : mx_Sp := mx_S 3 0 0 (t_Mo_noise zz)
theorem sm_Mo_noise (zz : Nat × Nat) : mx_SMono (S_Mo_noise zz) := mx_S_mono (tm_Mo_noise zz)
abbrev rm_Mo_noise : Room := { frames := 1, cells := 0, slots := 0, locals := 22 }
set_option maxHeartbeats 4000000 in
set_option maxRecDepth 100000 in
theorem m_Mo_noise (l : Launch) (zz : Nat × Nat) : mx_Met l y_Mo_noise (wsOf y_Mo_noise c_Mo_noise 3 (some .boolean)) rm_Mo_noise wcl (mx_Z zz) 0 0 (S_Mo_noise zz) := by
  refine mx_met (cc := c_Mo_noise) (ret := (some .boolean)) (by decide) rfl ?_
  intro p e s m args below meth c D A Post X hz hr hlk hnm
  have hm : ∀ w ∈ mw, w.before args s = true := fun w h => X.1.2.2.2.2 w (List.mem_cons_of_mem _ h)
  refine mx_all_cons (ok_iload (fun hl kk => lv_iload_n X.1.1 X.1.2.1 d_Mo_noise_0 rfl hl kk)) ?_
  refine mx_all_cons (ok_push (fun kk => lv_iconst X.1.1 X.1.2.1 d_Mo_noise_1 (by decide) kk)) ?_
  refine mx_all_cons (ok_push (fun kk => lv_bipush X.1.1 X.1.2.1 d_Mo_noise_2 (by decide) kk)) ?_
  refine mx_all_cons (ok_callS X (mx_Zok_Z zz) hz ⟨(Nat.le_of_ble_eq_true rfl), (Nat.le_of_ble_eq_true rfl)⟩ (m_Mo_within l zz) ⟨mx_cwB 3 hm w804 w802 w40 rfl rfl (by decide +kernel) ⟨(Nat.le_of_ble_eq_true rfl), (Nat.le_of_ble_eq_true rfl)⟩, (hm _ w803)⟩ d_Mo_noise_4) ?_
  refine mx_all_cons (ok_if (fun kt kf => lv_if_eq X.1.1 X.1.2.1 d_Mo_noise_7 (by decide) kt kf)) ?_
  refine mx_all_cons (ok_iload (fun hl kk => lv_iload_n X.1.1 X.1.2.1 d_Mo_noise_10 rfl hl kk)) ?_
  refine mx_all_cons (ok_push (fun kk => lv_iconst X.1.1 X.1.2.1 d_Mo_noise_11 (by decide) kk)) ?_
  refine mx_all_cons (ok_push (fun kk => lv_sipush X.1.1 X.1.2.1 d_Mo_noise_12 (by decide) kk)) ?_
  refine mx_all_cons (ok_callS X (mx_Zok_Z zz) hz ⟨(Nat.le_of_ble_eq_true rfl), (Nat.le_of_ble_eq_true rfl)⟩ (m_Mo_within l zz) ⟨mx_cwB 3 hm w804 w802 w40 rfl rfl (by decide +kernel) ⟨(Nat.le_of_ble_eq_true rfl), (Nat.le_of_ble_eq_true rfl)⟩, (hm _ w803)⟩ d_Mo_noise_15) ?_
  refine mx_all_cons (ok_if (fun kt kf => lv_if_ne X.1.1 X.1.2.1 d_Mo_noise_18 (by decide) kt (fun z => kf (fun g => g z)))) ?_
  refine mx_all_cons (ok_push (fun kk => lv_iconst X.1.1 X.1.2.1 d_Mo_noise_21 (by decide) kk)) ?_
  refine mx_all_cons (ok_zret X hr hlk d_Mo_noise_22) ?_
  refine mx_all_cons (ok_aload (fun hl kk => lv_aload_n X.1.1 X.1.2.1 d_Mo_noise_23 rfl hl kk) (fun hl kk => lv_aload_nN X.1.1 X.1.2.1 d_Mo_noise_23 rfl hl kk)) ?_
  refine mx_all_cons (ok_push (fun kk => lv_iconst X.1.1 X.1.2.1 d_Mo_noise_24 (by decide) kk)) ?_
  refine mx_all_cons (ok_put (C := "HeaderScheduleModel") (T := T_Mo) (N := 40) X (mw_up in_Mo) ty_Mo tyok_Mo nm_Mo rfl 36 (by decide) (hm _ w713) (fun _ h9 => h9) rfl (tyok_Mo 36 (by decide)) mx_vZ_ok d_Mo_noise_25) ?_
  refine mx_all_cons (ok_aload (fun hl kk => lv_aload_n X.1.1 X.1.2.1 d_Mo_noise_28 rfl hl kk) (fun hl kk => lv_aload_nN X.1.1 X.1.2.1 d_Mo_noise_28 rfl hl kk)) ?_
  refine mx_all_cons (ok_iload (fun hl kk => lv_iload_n X.1.1 X.1.2.1 d_Mo_noise_29 rfl hl kk)) ?_
  refine mx_all_cons (ok_put (C := "HeaderScheduleModel") (T := T_Mo) (N := 40) X (mw_up in_Mo) ty_Mo tyok_Mo nm_Mo rfl 37 (by decide) (hm _ w714) (fun _ h9 => h9) rfl (tyok_Mo 37 (by decide)) mx_vI_ok d_Mo_noise_30) ?_
  refine mx_all_cons (ok_aload (fun hl kk => lv_aload_n X.1.1 X.1.2.1 d_Mo_noise_33 rfl hl kk) (fun hl kk => lv_aload_nN X.1.1 X.1.2.1 d_Mo_noise_33 rfl hl kk)) ?_
  refine mx_all_cons (ok_iload (fun hl kk => lv_iload_n X.1.1 X.1.2.1 d_Mo_noise_34 rfl hl kk)) ?_
  refine mx_all_cons (ok_put (C := "HeaderScheduleModel") (T := T_Mo) (N := 40) X (mw_up in_Mo) ty_Mo tyok_Mo nm_Mo rfl 38 (by decide) (hm _ w715) (fun _ h9 => h9) rfl (tyok_Mo 38 (by decide)) mx_vI_ok d_Mo_noise_35) ?_
  refine mx_all_cons (ok_push (fun kk => lv_iconst X.1.1 X.1.2.1 d_Mo_noise_38 (by decide) kk)) ?_
  refine mx_all_cons (ok_zret X hr hlk d_Mo_noise_39) ?_
  exact mx_all_nil
theorem st_Mo_noise_0 (zz : Nat × Nat) (r : mx_T) (ls : mx_L) (st : List Value) (h : mx_H) (c n : Nat) : mx_G r (t_Mo_noise zz) 0 ls st h c n = (o_iload 1 1) r (mx_G r (t_Mo_noise zz)) 0 ls st h c n := mx_G_eq (tm_Mo_noise zz) r 0 ls st h c n
theorem st_Mo_noise_1 (zz : Nat × Nat) (r : mx_T) (ls : mx_L) (st : List Value) (h : mx_H) (c n : Nat) : mx_G r (t_Mo_noise zz) 1 ls st h c n = (o_push 1 (.int 0)) r (mx_G r (t_Mo_noise zz)) 1 ls st h c n := mx_G_eq (tm_Mo_noise zz) r 1 ls st h c n
theorem st_Mo_noise_2 (zz : Nat × Nat) (r : mx_T) (ls : mx_L) (st : List Value) (h : mx_H) (c n : Nat) : mx_G r (t_Mo_noise zz) 2 ls st h c n = (o_push 2 (.int 8)) r (mx_G r (t_Mo_noise zz)) 2 ls st h c n := mx_G_eq (tm_Mo_noise zz) r 2 ls st h c n
theorem st_Mo_noise_4 (zz : Nat × Nat) (r : mx_T) (ls : mx_L) (st : List Value) (h : mx_H) (c n : Nat) : mx_G r (t_Mo_noise zz) 4 ls st h c n = (o_call 0 0 3 0 0 (fun _ _ => True) (S_Mo_within zz)) r (mx_G r (t_Mo_noise zz)) 4 ls st h c n := mx_G_eq (tm_Mo_noise zz) r 4 ls st h c n
theorem st_Mo_noise_7 (zz : Nat × Nat) (r : mx_T) (ls : mx_L) (st : List Value) (h : mx_H) (c n : Nat) : mx_G r (t_Mo_noise zz) 7 ls st h c n = (o_if 21 (fun x => x = 0)) r (mx_G r (t_Mo_noise zz)) 7 ls st h c n := mx_G_eq (tm_Mo_noise zz) r 7 ls st h c n
theorem st_Mo_noise_10 (zz : Nat × Nat) (r : mx_T) (ls : mx_L) (st : List Value) (h : mx_H) (c n : Nat) : mx_G r (t_Mo_noise zz) 10 ls st h c n = (o_iload 1 2) r (mx_G r (t_Mo_noise zz)) 10 ls st h c n := mx_G_eq (tm_Mo_noise zz) r 10 ls st h c n
theorem st_Mo_noise_11 (zz : Nat × Nat) (r : mx_T) (ls : mx_L) (st : List Value) (h : mx_H) (c n : Nat) : mx_G r (t_Mo_noise zz) 11 ls st h c n = (o_push 1 (.int 1)) r (mx_G r (t_Mo_noise zz)) 11 ls st h c n := mx_G_eq (tm_Mo_noise zz) r 11 ls st h c n
theorem st_Mo_noise_12 (zz : Nat × Nat) (r : mx_T) (ls : mx_L) (st : List Value) (h : mx_H) (c n : Nat) : mx_G r (t_Mo_noise zz) 12 ls st h c n = (o_push 3 (.int 255)) r (mx_G r (t_Mo_noise zz)) 12 ls st h c n := mx_G_eq (tm_Mo_noise zz) r 12 ls st h c n
theorem st_Mo_noise_15 (zz : Nat × Nat) (r : mx_T) (ls : mx_L) (st : List Value) (h : mx_H) (c n : Nat) : mx_G r (t_Mo_noise zz) 15 ls st h c n = (o_call 0 0 3 0 0 (fun _ _ => True) (S_Mo_within zz)) r (mx_G r (t_Mo_noise zz)) 15 ls st h c n := mx_G_eq (tm_Mo_noise zz) r 15 ls st h c n
theorem st_Mo_noise_18 (zz : Nat × Nat) (r : mx_T) (ls : mx_L) (st : List Value) (h : mx_H) (c n : Nat) : mx_G r (t_Mo_noise zz) 18 ls st h c n = (o_if 23 (fun x => ¬ x = 0)) r (mx_G r (t_Mo_noise zz)) 18 ls st h c n := mx_G_eq (tm_Mo_noise zz) r 18 ls st h c n
theorem st_Mo_noise_21 (zz : Nat × Nat) (r : mx_T) (ls : mx_L) (st : List Value) (h : mx_H) (c n : Nat) : mx_G r (t_Mo_noise zz) 21 ls st h c n = (o_push 1 (.int 0)) r (mx_G r (t_Mo_noise zz)) 21 ls st h c n := mx_G_eq (tm_Mo_noise zz) r 21 ls st h c n
theorem st_Mo_noise_22 (zz : Nat × Nat) (r : mx_T) (ls : mx_L) (st : List Value) (h : mx_H) (c n : Nat) : mx_G r (t_Mo_noise zz) 22 ls st h c n = (o_zret) r (mx_G r (t_Mo_noise zz)) 22 ls st h c n := mx_G_eq (tm_Mo_noise zz) r 22 ls st h c n
theorem st_Mo_noise_23 (zz : Nat × Nat) (r : mx_T) (ls : mx_L) (st : List Value) (h : mx_H) (c n : Nat) : mx_G r (t_Mo_noise zz) 23 ls st h c n = (o_aload 1 0) r (mx_G r (t_Mo_noise zz)) 23 ls st h c n := mx_G_eq (tm_Mo_noise zz) r 23 ls st h c n
theorem st_Mo_noise_24 (zz : Nat × Nat) (r : mx_T) (ls : mx_L) (st : List Value) (h : mx_H) (c n : Nat) : mx_G r (t_Mo_noise zz) 24 ls st h c n = (o_push 1 (.int 1)) r (mx_G r (t_Mo_noise zz)) 24 ls st h c n := mx_G_eq (tm_Mo_noise zz) r 24 ls st h c n
theorem st_Mo_noise_25 (zz : Nat × Nat) (r : mx_T) (ls : mx_L) (st : List Value) (h : mx_H) (c n : Nat) : mx_G r (t_Mo_noise zz) 25 ls st h c n = (o_put 10 36 mx_vZ) r (mx_G r (t_Mo_noise zz)) 25 ls st h c n := mx_G_eq (tm_Mo_noise zz) r 25 ls st h c n
theorem st_Mo_noise_28 (zz : Nat × Nat) (r : mx_T) (ls : mx_L) (st : List Value) (h : mx_H) (c n : Nat) : mx_G r (t_Mo_noise zz) 28 ls st h c n = (o_aload 1 0) r (mx_G r (t_Mo_noise zz)) 28 ls st h c n := mx_G_eq (tm_Mo_noise zz) r 28 ls st h c n
theorem st_Mo_noise_29 (zz : Nat × Nat) (r : mx_T) (ls : mx_L) (st : List Value) (h : mx_H) (c n : Nat) : mx_G r (t_Mo_noise zz) 29 ls st h c n = (o_iload 1 1) r (mx_G r (t_Mo_noise zz)) 29 ls st h c n := mx_G_eq (tm_Mo_noise zz) r 29 ls st h c n
theorem st_Mo_noise_30 (zz : Nat × Nat) (r : mx_T) (ls : mx_L) (st : List Value) (h : mx_H) (c n : Nat) : mx_G r (t_Mo_noise zz) 30 ls st h c n = (o_put 10 37 mx_vI) r (mx_G r (t_Mo_noise zz)) 30 ls st h c n := mx_G_eq (tm_Mo_noise zz) r 30 ls st h c n
theorem st_Mo_noise_33 (zz : Nat × Nat) (r : mx_T) (ls : mx_L) (st : List Value) (h : mx_H) (c n : Nat) : mx_G r (t_Mo_noise zz) 33 ls st h c n = (o_aload 1 0) r (mx_G r (t_Mo_noise zz)) 33 ls st h c n := mx_G_eq (tm_Mo_noise zz) r 33 ls st h c n
theorem st_Mo_noise_34 (zz : Nat × Nat) (r : mx_T) (ls : mx_L) (st : List Value) (h : mx_H) (c n : Nat) : mx_G r (t_Mo_noise zz) 34 ls st h c n = (o_iload 1 2) r (mx_G r (t_Mo_noise zz)) 34 ls st h c n := mx_G_eq (tm_Mo_noise zz) r 34 ls st h c n
theorem st_Mo_noise_35 (zz : Nat × Nat) (r : mx_T) (ls : mx_L) (st : List Value) (h : mx_H) (c n : Nat) : mx_G r (t_Mo_noise zz) 35 ls st h c n = (o_put 10 38 mx_vI) r (mx_G r (t_Mo_noise zz)) 35 ls st h c n := mx_G_eq (tm_Mo_noise zz) r 35 ls st h c n
theorem st_Mo_noise_38 (zz : Nat × Nat) (r : mx_T) (ls : mx_L) (st : List Value) (h : mx_H) (c n : Nat) : mx_G r (t_Mo_noise zz) 38 ls st h c n = (o_push 1 (.int 1)) r (mx_G r (t_Mo_noise zz)) 38 ls st h c n := mx_G_eq (tm_Mo_noise zz) r 38 ls st h c n
theorem st_Mo_noise_39 (zz : Nat × Nat) (r : mx_T) (ls : mx_L) (st : List Value) (h : mx_H) (c n : Nat) : mx_G r (t_Mo_noise zz) 39 ls st h c n = (o_zret) r (mx_G r (t_Mo_noise zz)) 39 ls st h c n := mx_G_eq (tm_Mo_noise zz) r 39 ls st h c n
theorem d_Mo_turnOver_0 : decode c_Mo_turnOver 0 = .ok (.aload_n 0, 1) := by decide +kernel
theorem d_Mo_turnOver_1 : decode c_Mo_turnOver 1 = .ok (.getfield 173, 3) := by decide +kernel
theorem d_Mo_turnOver_4 : decode c_Mo_turnOver 4 = .ok (.ifCond .le 47, 3) := by decide +kernel
theorem d_Mo_turnOver_7 : decode c_Mo_turnOver 7 = .ok (.aload_n 0, 1) := by decide +kernel
theorem d_Mo_turnOver_8 : decode c_Mo_turnOver 8 = .ok (.aload_n 0, 1) := by decide +kernel
theorem d_Mo_turnOver_9 : decode c_Mo_turnOver 9 = .ok (.getfield 124, 3) := by decide +kernel
theorem d_Mo_turnOver_12 : decode c_Mo_turnOver 12 = .ok (.putfield 176, 3) := by decide +kernel
theorem d_Mo_turnOver_15 : decode c_Mo_turnOver 15 = .ok (.aload_n 0, 1) := by decide +kernel
theorem d_Mo_turnOver_16 : decode c_Mo_turnOver 16 = .ok (.aload_n 0, 1) := by decide +kernel
theorem d_Mo_turnOver_17 : decode c_Mo_turnOver 17 = .ok (.getfield 127, 3) := by decide +kernel
theorem d_Mo_turnOver_20 : decode c_Mo_turnOver 20 = .ok (.putfield 179, 3) := by decide +kernel
theorem d_Mo_turnOver_23 : decode c_Mo_turnOver 23 = .ok (.aload_n 0, 1) := by decide +kernel
theorem d_Mo_turnOver_24 : decode c_Mo_turnOver 24 = .ok (.aload_n 0, 1) := by decide +kernel
theorem d_Mo_turnOver_25 : decode c_Mo_turnOver 25 = .ok (.getfield 56, 3) := by decide +kernel
theorem d_Mo_turnOver_28 : decode c_Mo_turnOver 28 = .ok (.aload_n 0, 1) := by decide +kernel
theorem d_Mo_turnOver_29 : decode c_Mo_turnOver 29 = .ok (.getfield 173, 3) := by decide +kernel
theorem d_Mo_turnOver_32 : decode c_Mo_turnOver 32 = .ok (.iconst 1, 1) := by decide +kernel
theorem d_Mo_turnOver_33 : decode c_Mo_turnOver 33 = .ok (.isub, 1) := by decide +kernel
theorem d_Mo_turnOver_34 : decode c_Mo_turnOver 34 = .ok (.iaload, 1) := by decide +kernel
theorem d_Mo_turnOver_35 : decode c_Mo_turnOver 35 = .ok (.putfield 124, 3) := by decide +kernel
theorem d_Mo_turnOver_38 : decode c_Mo_turnOver 38 = .ok (.aload_n 0, 1) := by decide +kernel
theorem d_Mo_turnOver_39 : decode c_Mo_turnOver 39 = .ok (.iconst 0, 1) := by decide +kernel
theorem d_Mo_turnOver_40 : decode c_Mo_turnOver 40 = .ok (.putfield 127, 3) := by decide +kernel
theorem d_Mo_turnOver_43 : decode c_Mo_turnOver 43 = .ok (.aload_n 0, 1) := by decide +kernel
theorem d_Mo_turnOver_44 : decode c_Mo_turnOver 44 = .ok (.iconst 1, 1) := by decide +kernel
theorem d_Mo_turnOver_45 : decode c_Mo_turnOver 45 = .ok (.putfield 182, 3) := by decide +kernel
theorem d_Mo_turnOver_48 : decode c_Mo_turnOver 48 = .ok (.goto 47, 3) := by decide +kernel
theorem d_Mo_turnOver_51 : decode c_Mo_turnOver 51 = .ok (.aload_n 0, 1) := by decide +kernel
theorem d_Mo_turnOver_52 : decode c_Mo_turnOver 52 = .ok (.getfield 182, 3) := by decide +kernel
theorem d_Mo_turnOver_55 : decode c_Mo_turnOver 55 = .ok (.ifCond .eq 40, 3) := by decide +kernel
theorem d_Mo_turnOver_58 : decode c_Mo_turnOver 58 = .ok (.aload_n 0, 1) := by decide +kernel
theorem d_Mo_turnOver_59 : decode c_Mo_turnOver 59 = .ok (.getfield 127, 3) := by decide +kernel
theorem d_Mo_turnOver_62 : decode c_Mo_turnOver 62 = .ok (.aload_n 0, 1) := by decide +kernel
theorem d_Mo_turnOver_63 : decode c_Mo_turnOver 63 = .ok (.getfield 59, 3) := by decide +kernel
theorem d_Mo_turnOver_66 : decode c_Mo_turnOver 66 = .ok (.aload_n 0, 1) := by decide +kernel
theorem d_Mo_turnOver_67 : decode c_Mo_turnOver 67 = .ok (.getfield 124, 3) := by decide +kernel
theorem d_Mo_turnOver_70 : decode c_Mo_turnOver 70 = .ok (.iaload, 1) := by decide +kernel
theorem d_Mo_turnOver_71 : decode c_Mo_turnOver 71 = .ok (.if_icmp .ne 24, 3) := by decide +kernel
theorem d_Mo_turnOver_74 : decode c_Mo_turnOver 74 = .ok (.aload_n 0, 1) := by decide +kernel
theorem d_Mo_turnOver_75 : decode c_Mo_turnOver 75 = .ok (.iconst 0, 1) := by decide +kernel
theorem d_Mo_turnOver_76 : decode c_Mo_turnOver 76 = .ok (.putfield 182, 3) := by decide +kernel
theorem d_Mo_turnOver_79 : decode c_Mo_turnOver 79 = .ok (.aload_n 0, 1) := by decide +kernel
theorem d_Mo_turnOver_80 : decode c_Mo_turnOver 80 = .ok (.aload_n 0, 1) := by decide +kernel
theorem d_Mo_turnOver_81 : decode c_Mo_turnOver 81 = .ok (.getfield 176, 3) := by decide +kernel
theorem d_Mo_turnOver_84 : decode c_Mo_turnOver 84 = .ok (.putfield 124, 3) := by decide +kernel
theorem d_Mo_turnOver_87 : decode c_Mo_turnOver 87 = .ok (.aload_n 0, 1) := by decide +kernel
theorem d_Mo_turnOver_88 : decode c_Mo_turnOver 88 = .ok (.aload_n 0, 1) := by decide +kernel
theorem d_Mo_turnOver_89 : decode c_Mo_turnOver 89 = .ok (.getfield 179, 3) := by decide +kernel
theorem d_Mo_turnOver_92 : decode c_Mo_turnOver 92 = .ok (.putfield 127, 3) := by decide +kernel
theorem d_Mo_turnOver_95 : decode c_Mo_turnOver 95 = .ok (.aload_n 0, 1) := by decide +kernel
theorem d_Mo_turnOver_96 : decode c_Mo_turnOver 96 = .ok (.getfield 182, 3) := by decide +kernel
theorem d_Mo_turnOver_99 : decode c_Mo_turnOver 99 = .ok (.ifCond .ne 28, 3) := by decide +kernel
theorem d_Mo_turnOver_102 : decode c_Mo_turnOver 102 = .ok (.aload_n 0, 1) := by decide +kernel
theorem d_Mo_turnOver_103 : decode c_Mo_turnOver 103 = .ok (.getfield 71, 3) := by decide +kernel
theorem d_Mo_turnOver_106 : decode c_Mo_turnOver 106 = .ok (.ifCond .lt 21, 3) := by decide +kernel
theorem d_Mo_turnOver_109 : decode c_Mo_turnOver 109 = .ok (.aload_n 0, 1) := by decide +kernel
theorem d_Mo_turnOver_110 : decode c_Mo_turnOver 110 = .ok (.aload_n 0, 1) := by decide +kernel
theorem d_Mo_turnOver_111 : decode c_Mo_turnOver 111 = .ok (.getfield 71, 3) := by decide +kernel
theorem d_Mo_turnOver_114 : decode c_Mo_turnOver 114 = .ok (.putfield 124, 3) := by decide +kernel
theorem d_Mo_turnOver_117 : decode c_Mo_turnOver 117 = .ok (.aload_n 0, 1) := by decide +kernel
theorem d_Mo_turnOver_118 : decode c_Mo_turnOver 118 = .ok (.iconst 0, 1) := by decide +kernel
theorem d_Mo_turnOver_119 : decode c_Mo_turnOver 119 = .ok (.putfield 127, 3) := by decide +kernel
theorem d_Mo_turnOver_122 : decode c_Mo_turnOver 122 = .ok (.aload_n 0, 1) := by decide +kernel
theorem d_Mo_turnOver_123 : decode c_Mo_turnOver 123 = .ok (.iconst (-1), 1) := by decide +kernel
theorem d_Mo_turnOver_124 : decode c_Mo_turnOver 124 = .ok (.putfield 71, 3) := by decide +kernel
theorem d_Mo_turnOver_127 : decode c_Mo_turnOver 127 = .ok (.aload_n 0, 1) := by decide +kernel
theorem d_Mo_turnOver_128 : decode c_Mo_turnOver 128 = .ok (.aload_n 0, 1) := by decide +kernel
theorem d_Mo_turnOver_129 : decode c_Mo_turnOver 129 = .ok (.getfield 127, 3) := by decide +kernel
theorem d_Mo_turnOver_132 : decode c_Mo_turnOver 132 = .ok (.aload_n 0, 1) := by decide +kernel
theorem d_Mo_turnOver_133 : decode c_Mo_turnOver 133 = .ok (.getfield 59, 3) := by decide +kernel
theorem d_Mo_turnOver_136 : decode c_Mo_turnOver 136 = .ok (.aload_n 0, 1) := by decide +kernel
theorem d_Mo_turnOver_137 : decode c_Mo_turnOver 137 = .ok (.getfield 124, 3) := by decide +kernel
theorem d_Mo_turnOver_140 : decode c_Mo_turnOver 140 = .ok (.iaload, 1) := by decide +kernel
theorem d_Mo_turnOver_141 : decode c_Mo_turnOver 141 = .ok (.if_icmp .ne 7, 3) := by decide +kernel
theorem d_Mo_turnOver_144 : decode c_Mo_turnOver 144 = .ok (.iconst 0, 1) := by decide +kernel
theorem d_Mo_turnOver_145 : decode c_Mo_turnOver 145 = .ok (.goto 7, 3) := by decide +kernel
theorem d_Mo_turnOver_148 : decode c_Mo_turnOver 148 = .ok (.aload_n 0, 1) := by decide +kernel
theorem d_Mo_turnOver_149 : decode c_Mo_turnOver 149 = .ok (.getfield 127, 3) := by decide +kernel
theorem d_Mo_turnOver_152 : decode c_Mo_turnOver 152 = .ok (.putfield 127, 3) := by decide +kernel
theorem d_Mo_turnOver_155 : decode c_Mo_turnOver 155 = .ok (.return_, 1) := by decide +kernel
def t_Mo_turnOver (zz : Nat × Nat) : List (Nat × mx_O) := [(0, o_aload 1 0),
  (1, o_get 10 33),
  (4, o_if 51 (fun x => x ≤ 0)),
  (7, o_aload 1 0),
  (8, o_aload 1 0),
  (9, o_get 10 26),
  (12, o_put 10 30 mx_vI),
  (15, o_aload 1 0),
  (16, o_aload 1 0),
  (17, o_get 10 27),
  (20, o_put 10 31 mx_vI),
  (23, o_aload 1 0),
  (24, o_aload 1 0),
  (25, o_get 10 19),
  (28, o_aload 1 0),
  (29, o_get 10 33),
  (32, o_push 1 (.int 1)),
  (33, o_ii (fun x y => x - y)),
  (34, o_iald .int),
  (35, o_put 10 26 mx_vI),
  (38, o_aload 1 0),
  (39, o_push 1 (.int 0)),
  (40, o_put 10 27 mx_vI),
  (43, o_aload 1 0),
  (44, o_push 1 (.int 1)),
  (45, o_put 10 29 mx_vZ),
  (48, o_goto 95),
  (51, o_aload 1 0),
  (52, o_get 10 29),
  (55, o_if 95 (fun x => x = 0)),
  (58, o_aload 1 0),
  (59, o_get 10 27),
  (62, o_aload 1 0),
  (63, o_get 10 20),
  (66, o_aload 1 0),
  (67, o_get 10 26),
  (70, o_iald .int),
  (71, o_icmp 95 (fun x y => ¬ x = y)),
  (74, o_aload 1 0),
  (75, o_push 1 (.int 0)),
  (76, o_put 10 29 mx_vZ),
  (79, o_aload 1 0),
  (80, o_aload 1 0),
  (81, o_get 10 30),
  (84, o_put 10 26 mx_vI),
  (87, o_aload 1 0),
  (88, o_aload 1 0),
  (89, o_get 10 31),
  (92, o_put 10 27 mx_vI),
  (95, o_aload 1 0),
  (96, o_get 10 29),
  (99, o_if 127 (fun x => ¬ x = 0)),
  (102, o_aload 1 0),
  (103, o_get 10 32),
  (106, o_if 127 (fun x => x < 0)),
  (109, o_aload 1 0),
  (110, o_aload 1 0),
  (111, o_get 10 32),
  (114, o_put 10 26 mx_vI),
  (117, o_aload 1 0),
  (118, o_push 1 (.int 0)),
  (119, o_put 10 27 mx_vI),
  (122, o_aload 1 0),
  (123, o_push 1 (.int (-1))),
  (124, o_put 10 32 mx_vI),
  (127, o_aload 1 0),
  (128, o_aload 1 0),
  (129, o_get 10 27),
  (132, o_aload 1 0),
  (133, o_get 10 20),
  (136, o_aload 1 0),
  (137, o_get 10 26),
  (140, o_iald .int),
  (141, o_icmp 148 (fun x y => ¬ x = y)),
  (144, o_push 1 (.int 0)),
  (145, o_goto 152),
  (148, o_aload 1 0),
  (149, o_get 10 27),
  (152, o_put 10 27 mx_vI),
  (155, o_vret)]
set_option maxRecDepth 100000 in
theorem tm_Mo_turnOver (zz : Nat × Nat) : mx_All (fun _ o => mx_Mono o) (t_Mo_turnOver zz) := by
  refine mx_all_cons (mo_st) ?_
  refine mx_all_cons (mo_st) ?_
  refine mx_all_cons (mo_br) ?_
  refine mx_all_cons (mo_st) ?_
  refine mx_all_cons (mo_st) ?_
  refine mx_all_cons (mo_st) ?_
  refine mx_all_cons (mo_sc) ?_
  refine mx_all_cons (mo_st) ?_
  refine mx_all_cons (mo_st) ?_
  refine mx_all_cons (mo_st) ?_
  refine mx_all_cons (mo_sc) ?_
  refine mx_all_cons (mo_st) ?_
  refine mx_all_cons (mo_st) ?_
  refine mx_all_cons (mo_st) ?_
  refine mx_all_cons (mo_st) ?_
  refine mx_all_cons (mo_st) ?_
  refine mx_all_cons (mo_st) ?_
  refine mx_all_cons (mo_st) ?_
  refine mx_all_cons (mo_sc) ?_
  refine mx_all_cons (mo_sc) ?_
  refine mx_all_cons (mo_st) ?_
  refine mx_all_cons (mo_st) ?_
  refine mx_all_cons (mo_sc) ?_
  refine mx_all_cons (mo_st) ?_
  refine mx_all_cons (mo_st) ?_
  refine mx_all_cons (mo_sc) ?_
  refine mx_all_cons (mo_st) ?_
  refine mx_all_cons (mo_st) ?_
  refine mx_all_cons (mo_st) ?_
  refine mx_all_cons (mo_br) ?_
  refine mx_all_cons (mo_st) ?_
  refine mx_all_cons (mo_st) ?_
  refine mx_all_cons (mo_st) ?_
  refine mx_all_cons (mo_st) ?_
  refine mx_all_cons (mo_st) ?_
  refine mx_all_cons (mo_st) ?_
  refine mx_all_cons (mo_sc) ?_
  refine mx_all_cons (mo_br) ?_
  refine mx_all_cons (mo_st) ?_
  refine mx_all_cons (mo_st) ?_
  refine mx_all_cons (mo_sc) ?_
  refine mx_all_cons (mo_st) ?_
  refine mx_all_cons (mo_st) ?_
  refine mx_all_cons (mo_st) ?_
  refine mx_all_cons (mo_sc) ?_
  refine mx_all_cons (mo_st) ?_
  refine mx_all_cons (mo_st) ?_
  refine mx_all_cons (mo_st) ?_
  refine mx_all_cons (mo_sc) ?_
  refine mx_all_cons (mo_st) ?_
  refine mx_all_cons (mo_st) ?_
  refine mx_all_cons (mo_br) ?_
  refine mx_all_cons (mo_st) ?_
  refine mx_all_cons (mo_st) ?_
  refine mx_all_cons (mo_br) ?_
  refine mx_all_cons (mo_st) ?_
  refine mx_all_cons (mo_st) ?_
  refine mx_all_cons (mo_st) ?_
  refine mx_all_cons (mo_sc) ?_
  refine mx_all_cons (mo_st) ?_
  refine mx_all_cons (mo_st) ?_
  refine mx_all_cons (mo_sc) ?_
  refine mx_all_cons (mo_st) ?_
  refine mx_all_cons (mo_st) ?_
  refine mx_all_cons (mo_sc) ?_
  refine mx_all_cons (mo_st) ?_
  refine mx_all_cons (mo_st) ?_
  refine mx_all_cons (mo_st) ?_
  refine mx_all_cons (mo_st) ?_
  refine mx_all_cons (mo_st) ?_
  refine mx_all_cons (mo_st) ?_
  refine mx_all_cons (mo_st) ?_
  refine mx_all_cons (mo_sc) ?_
  refine mx_all_cons (mo_br) ?_
  refine mx_all_cons (mo_st) ?_
  refine mx_all_cons (mo_st) ?_
  refine mx_all_cons (mo_st) ?_
  refine mx_all_cons (mo_st) ?_
  refine mx_all_cons (mo_sc) ?_
  refine mx_all_cons (mo_ret) ?_
  exact mx_all_nil
def S_Mo_turnOver (zz : Nat × Nat) : mx_Sp := mx_S 1 0 0 (t_Mo_turnOver zz)
theorem sm_Mo_turnOver (zz : Nat × Nat) : mx_SMono (S_Mo_turnOver zz) := mx_S_mono (tm_Mo_turnOver zz)
abbrev rm_Mo_turnOver : Room := { frames := 0, cells := 0, slots := 0, locals := 0 }
set_option maxHeartbeats 4000000 in
set_option maxRecDepth 100000 in
theorem m_Mo_turnOver (l : Launch) (zz : Nat × Nat) : mx_Met l y_Mo_turnOver (wsOf y_Mo_turnOver c_Mo_turnOver 1 none) rm_Mo_turnOver wcl (mx_Z zz) 0 0 (S_Mo_turnOver zz) := by
  refine mx_met (cc := c_Mo_turnOver) (ret := none) (by decide) rfl ?_
  intro p e s m args below meth c D A Post X hz hr hlk hnm
  have hm : ∀ w ∈ mw, w.before args s = true := fun w h => X.1.2.2.2.2 w (List.mem_cons_of_mem _ h)
  refine mx_all_cons (ok_aload (fun hl kk => lv_aload_n X.1.1 X.1.2.1 d_Mo_turnOver_0 rfl hl kk) (fun hl kk => lv_aload_nN X.1.1 X.1.2.1 d_Mo_turnOver_0 rfl hl kk)) ?_
  refine mx_all_cons (ok_get (C := "HeaderScheduleModel") (T := T_Mo) (N := 40) X (mw_up in_Mo) rfl 33 (by decide) (hm _ w710) (fun _ h9 => h9) d_Mo_turnOver_1) ?_
  refine mx_all_cons (ok_if (fun kt kf => lv_if_le X.1.1 X.1.2.1 d_Mo_turnOver_4 (by decide) kt kf)) ?_
  refine mx_all_cons (ok_aload (fun hl kk => lv_aload_n X.1.1 X.1.2.1 d_Mo_turnOver_7 rfl hl kk) (fun hl kk => lv_aload_nN X.1.1 X.1.2.1 d_Mo_turnOver_7 rfl hl kk)) ?_
  refine mx_all_cons (ok_aload (fun hl kk => lv_aload_n X.1.1 X.1.2.1 d_Mo_turnOver_8 rfl hl kk) (fun hl kk => lv_aload_nN X.1.1 X.1.2.1 d_Mo_turnOver_8 rfl hl kk)) ?_
  refine mx_all_cons (ok_get (C := "HeaderScheduleModel") (T := T_Mo) (N := 40) X (mw_up in_Mo) rfl 26 (by decide) (hm _ w703) (fun _ h9 => h9) d_Mo_turnOver_9) ?_
  refine mx_all_cons (ok_put (C := "HeaderScheduleModel") (T := T_Mo) (N := 40) X (mw_up in_Mo) ty_Mo tyok_Mo nm_Mo rfl 30 (by decide) (hm _ w707) (fun _ h9 => h9) rfl (tyok_Mo 30 (by decide)) mx_vI_ok d_Mo_turnOver_12) ?_
  refine mx_all_cons (ok_aload (fun hl kk => lv_aload_n X.1.1 X.1.2.1 d_Mo_turnOver_15 rfl hl kk) (fun hl kk => lv_aload_nN X.1.1 X.1.2.1 d_Mo_turnOver_15 rfl hl kk)) ?_
  refine mx_all_cons (ok_aload (fun hl kk => lv_aload_n X.1.1 X.1.2.1 d_Mo_turnOver_16 rfl hl kk) (fun hl kk => lv_aload_nN X.1.1 X.1.2.1 d_Mo_turnOver_16 rfl hl kk)) ?_
  refine mx_all_cons (ok_get (C := "HeaderScheduleModel") (T := T_Mo) (N := 40) X (mw_up in_Mo) rfl 27 (by decide) (hm _ w704) (fun _ h9 => h9) d_Mo_turnOver_17) ?_
  refine mx_all_cons (ok_put (C := "HeaderScheduleModel") (T := T_Mo) (N := 40) X (mw_up in_Mo) ty_Mo tyok_Mo nm_Mo rfl 31 (by decide) (hm _ w708) (fun _ h9 => h9) rfl (tyok_Mo 31 (by decide)) mx_vI_ok d_Mo_turnOver_20) ?_
  refine mx_all_cons (ok_aload (fun hl kk => lv_aload_n X.1.1 X.1.2.1 d_Mo_turnOver_23 rfl hl kk) (fun hl kk => lv_aload_nN X.1.1 X.1.2.1 d_Mo_turnOver_23 rfl hl kk)) ?_
  refine mx_all_cons (ok_aload (fun hl kk => lv_aload_n X.1.1 X.1.2.1 d_Mo_turnOver_24 rfl hl kk) (fun hl kk => lv_aload_nN X.1.1 X.1.2.1 d_Mo_turnOver_24 rfl hl kk)) ?_
  refine mx_all_cons (ok_get (C := "HeaderScheduleModel") (T := T_Mo) (N := 40) X (mw_up in_Mo) rfl 19 (by decide) (hm _ w696) (fun _ h9 => h9) d_Mo_turnOver_25) ?_
  refine mx_all_cons (ok_aload (fun hl kk => lv_aload_n X.1.1 X.1.2.1 d_Mo_turnOver_28 rfl hl kk) (fun hl kk => lv_aload_nN X.1.1 X.1.2.1 d_Mo_turnOver_28 rfl hl kk)) ?_
  refine mx_all_cons (ok_get (C := "HeaderScheduleModel") (T := T_Mo) (N := 40) X (mw_up in_Mo) rfl 33 (by decide) (hm _ w710) (fun _ h9 => h9) d_Mo_turnOver_29) ?_
  refine mx_all_cons (ok_push (fun kk => lv_iconst X.1.1 X.1.2.1 d_Mo_turnOver_32 (by decide) kk)) ?_
  refine mx_all_cons (ok_ii (fun kk => lv_isub X.1.1 X.1.2.1 d_Mo_turnOver_33 kk)) ?_
  refine mx_all_cons (ok_iald X d_Mo_turnOver_34) ?_
  refine mx_all_cons (ok_put (C := "HeaderScheduleModel") (T := T_Mo) (N := 40) X (mw_up in_Mo) ty_Mo tyok_Mo nm_Mo rfl 26 (by decide) (hm _ w703) (fun _ h9 => h9) rfl (tyok_Mo 26 (by decide)) mx_vI_ok d_Mo_turnOver_35) ?_
  refine mx_all_cons (ok_aload (fun hl kk => lv_aload_n X.1.1 X.1.2.1 d_Mo_turnOver_38 rfl hl kk) (fun hl kk => lv_aload_nN X.1.1 X.1.2.1 d_Mo_turnOver_38 rfl hl kk)) ?_
  refine mx_all_cons (ok_push (fun kk => lv_iconst X.1.1 X.1.2.1 d_Mo_turnOver_39 (by decide) kk)) ?_
  refine mx_all_cons (ok_put (C := "HeaderScheduleModel") (T := T_Mo) (N := 40) X (mw_up in_Mo) ty_Mo tyok_Mo nm_Mo rfl 27 (by decide) (hm _ w704) (fun _ h9 => h9) rfl (tyok_Mo 27 (by decide)) mx_vI_ok d_Mo_turnOver_40) ?_
  refine mx_all_cons (ok_aload (fun hl kk => lv_aload_n X.1.1 X.1.2.1 d_Mo_turnOver_43 rfl hl kk) (fun hl kk => lv_aload_nN X.1.1 X.1.2.1 d_Mo_turnOver_43 rfl hl kk)) ?_
  refine mx_all_cons (ok_push (fun kk => lv_iconst X.1.1 X.1.2.1 d_Mo_turnOver_44 (by decide) kk)) ?_
  refine mx_all_cons (ok_put (C := "HeaderScheduleModel") (T := T_Mo) (N := 40) X (mw_up in_Mo) ty_Mo tyok_Mo nm_Mo rfl 29 (by decide) (hm _ w706) (fun _ h9 => h9) rfl (tyok_Mo 29 (by decide)) mx_vZ_ok d_Mo_turnOver_45) ?_
  refine mx_all_cons (ok_goto X d_Mo_turnOver_48 (by decide)) ?_
  refine mx_all_cons (ok_aload (fun hl kk => lv_aload_n X.1.1 X.1.2.1 d_Mo_turnOver_51 rfl hl kk) (fun hl kk => lv_aload_nN X.1.1 X.1.2.1 d_Mo_turnOver_51 rfl hl kk)) ?_
  refine mx_all_cons (ok_get (C := "HeaderScheduleModel") (T := T_Mo) (N := 40) X (mw_up in_Mo) rfl 29 (by decide) (hm _ w706) (fun _ h9 => h9) d_Mo_turnOver_52) ?_
  refine mx_all_cons (ok_if (fun kt kf => lv_if_eq X.1.1 X.1.2.1 d_Mo_turnOver_55 (by decide) kt kf)) ?_
  refine mx_all_cons (ok_aload (fun hl kk => lv_aload_n X.1.1 X.1.2.1 d_Mo_turnOver_58 rfl hl kk) (fun hl kk => lv_aload_nN X.1.1 X.1.2.1 d_Mo_turnOver_58 rfl hl kk)) ?_
  refine mx_all_cons (ok_get (C := "HeaderScheduleModel") (T := T_Mo) (N := 40) X (mw_up in_Mo) rfl 27 (by decide) (hm _ w704) (fun _ h9 => h9) d_Mo_turnOver_59) ?_
  refine mx_all_cons (ok_aload (fun hl kk => lv_aload_n X.1.1 X.1.2.1 d_Mo_turnOver_62 rfl hl kk) (fun hl kk => lv_aload_nN X.1.1 X.1.2.1 d_Mo_turnOver_62 rfl hl kk)) ?_
  refine mx_all_cons (ok_get (C := "HeaderScheduleModel") (T := T_Mo) (N := 40) X (mw_up in_Mo) rfl 20 (by decide) (hm _ w697) (fun _ h9 => h9) d_Mo_turnOver_63) ?_
  refine mx_all_cons (ok_aload (fun hl kk => lv_aload_n X.1.1 X.1.2.1 d_Mo_turnOver_66 rfl hl kk) (fun hl kk => lv_aload_nN X.1.1 X.1.2.1 d_Mo_turnOver_66 rfl hl kk)) ?_
  refine mx_all_cons (ok_get (C := "HeaderScheduleModel") (T := T_Mo) (N := 40) X (mw_up in_Mo) rfl 26 (by decide) (hm _ w703) (fun _ h9 => h9) d_Mo_turnOver_67) ?_
  refine mx_all_cons (ok_iald X d_Mo_turnOver_70) ?_
  refine mx_all_cons (ok_icmp (fun kt kf => lv_icmp_ne X.1.1 X.1.2.1 d_Mo_turnOver_71 (by decide) kt (fun z => kf (fun g => g z)))) ?_
  refine mx_all_cons (ok_aload (fun hl kk => lv_aload_n X.1.1 X.1.2.1 d_Mo_turnOver_74 rfl hl kk) (fun hl kk => lv_aload_nN X.1.1 X.1.2.1 d_Mo_turnOver_74 rfl hl kk)) ?_
  refine mx_all_cons (ok_push (fun kk => lv_iconst X.1.1 X.1.2.1 d_Mo_turnOver_75 (by decide) kk)) ?_
  refine mx_all_cons (ok_put (C := "HeaderScheduleModel") (T := T_Mo) (N := 40) X (mw_up in_Mo) ty_Mo tyok_Mo nm_Mo rfl 29 (by decide) (hm _ w706) (fun _ h9 => h9) rfl (tyok_Mo 29 (by decide)) mx_vZ_ok d_Mo_turnOver_76) ?_
  refine mx_all_cons (ok_aload (fun hl kk => lv_aload_n X.1.1 X.1.2.1 d_Mo_turnOver_79 rfl hl kk) (fun hl kk => lv_aload_nN X.1.1 X.1.2.1 d_Mo_turnOver_79 rfl hl kk)) ?_
  refine mx_all_cons (ok_aload (fun hl kk => lv_aload_n X.1.1 X.1.2.1 d_Mo_turnOver_80 rfl hl kk) (fun hl kk => lv_aload_nN X.1.1 X.1.2.1 d_Mo_turnOver_80 rfl hl kk)) ?_
  refine mx_all_cons (ok_get (C := "HeaderScheduleModel") (T := T_Mo) (N := 40) X (mw_up in_Mo) rfl 30 (by decide) (hm _ w707) (fun _ h9 => h9) d_Mo_turnOver_81) ?_
  refine mx_all_cons (ok_put (C := "HeaderScheduleModel") (T := T_Mo) (N := 40) X (mw_up in_Mo) ty_Mo tyok_Mo nm_Mo rfl 26 (by decide) (hm _ w703) (fun _ h9 => h9) rfl (tyok_Mo 26 (by decide)) mx_vI_ok d_Mo_turnOver_84) ?_
  refine mx_all_cons (ok_aload (fun hl kk => lv_aload_n X.1.1 X.1.2.1 d_Mo_turnOver_87 rfl hl kk) (fun hl kk => lv_aload_nN X.1.1 X.1.2.1 d_Mo_turnOver_87 rfl hl kk)) ?_
  refine mx_all_cons (ok_aload (fun hl kk => lv_aload_n X.1.1 X.1.2.1 d_Mo_turnOver_88 rfl hl kk) (fun hl kk => lv_aload_nN X.1.1 X.1.2.1 d_Mo_turnOver_88 rfl hl kk)) ?_
  refine mx_all_cons (ok_get (C := "HeaderScheduleModel") (T := T_Mo) (N := 40) X (mw_up in_Mo) rfl 31 (by decide) (hm _ w708) (fun _ h9 => h9) d_Mo_turnOver_89) ?_
  refine mx_all_cons (ok_put (C := "HeaderScheduleModel") (T := T_Mo) (N := 40) X (mw_up in_Mo) ty_Mo tyok_Mo nm_Mo rfl 27 (by decide) (hm _ w704) (fun _ h9 => h9) rfl (tyok_Mo 27 (by decide)) mx_vI_ok d_Mo_turnOver_92) ?_
  refine mx_all_cons (ok_aload (fun hl kk => lv_aload_n X.1.1 X.1.2.1 d_Mo_turnOver_95 rfl hl kk) (fun hl kk => lv_aload_nN X.1.1 X.1.2.1 d_Mo_turnOver_95 rfl hl kk)) ?_
  refine mx_all_cons (ok_get (C := "HeaderScheduleModel") (T := T_Mo) (N := 40) X (mw_up in_Mo) rfl 29 (by decide) (hm _ w706) (fun _ h9 => h9) d_Mo_turnOver_96) ?_
  refine mx_all_cons (ok_if (fun kt kf => lv_if_ne X.1.1 X.1.2.1 d_Mo_turnOver_99 (by decide) kt (fun z => kf (fun g => g z)))) ?_
  refine mx_all_cons (ok_aload (fun hl kk => lv_aload_n X.1.1 X.1.2.1 d_Mo_turnOver_102 rfl hl kk) (fun hl kk => lv_aload_nN X.1.1 X.1.2.1 d_Mo_turnOver_102 rfl hl kk)) ?_
  refine mx_all_cons (ok_get (C := "HeaderScheduleModel") (T := T_Mo) (N := 40) X (mw_up in_Mo) rfl 32 (by decide) (hm _ w709) (fun _ h9 => h9) d_Mo_turnOver_103) ?_
  refine mx_all_cons (ok_if (fun kt kf => lv_if_lt X.1.1 X.1.2.1 d_Mo_turnOver_106 (by decide) kt kf)) ?_
  refine mx_all_cons (ok_aload (fun hl kk => lv_aload_n X.1.1 X.1.2.1 d_Mo_turnOver_109 rfl hl kk) (fun hl kk => lv_aload_nN X.1.1 X.1.2.1 d_Mo_turnOver_109 rfl hl kk)) ?_
  refine mx_all_cons (ok_aload (fun hl kk => lv_aload_n X.1.1 X.1.2.1 d_Mo_turnOver_110 rfl hl kk) (fun hl kk => lv_aload_nN X.1.1 X.1.2.1 d_Mo_turnOver_110 rfl hl kk)) ?_
  refine mx_all_cons (ok_get (C := "HeaderScheduleModel") (T := T_Mo) (N := 40) X (mw_up in_Mo) rfl 32 (by decide) (hm _ w709) (fun _ h9 => h9) d_Mo_turnOver_111) ?_
  refine mx_all_cons (ok_put (C := "HeaderScheduleModel") (T := T_Mo) (N := 40) X (mw_up in_Mo) ty_Mo tyok_Mo nm_Mo rfl 26 (by decide) (hm _ w703) (fun _ h9 => h9) rfl (tyok_Mo 26 (by decide)) mx_vI_ok d_Mo_turnOver_114) ?_
  refine mx_all_cons (ok_aload (fun hl kk => lv_aload_n X.1.1 X.1.2.1 d_Mo_turnOver_117 rfl hl kk) (fun hl kk => lv_aload_nN X.1.1 X.1.2.1 d_Mo_turnOver_117 rfl hl kk)) ?_
  refine mx_all_cons (ok_push (fun kk => lv_iconst X.1.1 X.1.2.1 d_Mo_turnOver_118 (by decide) kk)) ?_
  refine mx_all_cons (ok_put (C := "HeaderScheduleModel") (T := T_Mo) (N := 40) X (mw_up in_Mo) ty_Mo tyok_Mo nm_Mo rfl 27 (by decide) (hm _ w704) (fun _ h9 => h9) rfl (tyok_Mo 27 (by decide)) mx_vI_ok d_Mo_turnOver_119) ?_
  refine mx_all_cons (ok_aload (fun hl kk => lv_aload_n X.1.1 X.1.2.1 d_Mo_turnOver_122 rfl hl kk) (fun hl kk => lv_aload_nN X.1.1 X.1.2.1 d_Mo_turnOver_122 rfl hl kk)) ?_
  refine mx_all_cons (ok_push (fun kk => lv_iconst X.1.1 X.1.2.1 d_Mo_turnOver_123 (by decide) kk)) ?_
  refine mx_all_cons (ok_put (C := "HeaderScheduleModel") (T := T_Mo) (N := 40) X (mw_up in_Mo) ty_Mo tyok_Mo nm_Mo rfl 32 (by decide) (hm _ w709) (fun _ h9 => h9) rfl (tyok_Mo 32 (by decide)) mx_vI_ok d_Mo_turnOver_124) ?_
  refine mx_all_cons (ok_aload (fun hl kk => lv_aload_n X.1.1 X.1.2.1 d_Mo_turnOver_127 rfl hl kk) (fun hl kk => lv_aload_nN X.1.1 X.1.2.1 d_Mo_turnOver_127 rfl hl kk)) ?_
  refine mx_all_cons (ok_aload (fun hl kk => lv_aload_n X.1.1 X.1.2.1 d_Mo_turnOver_128 rfl hl kk) (fun hl kk => lv_aload_nN X.1.1 X.1.2.1 d_Mo_turnOver_128 rfl hl kk)) ?_
  refine mx_all_cons (ok_get (C := "HeaderScheduleModel") (T := T_Mo) (N := 40) X (mw_up in_Mo) rfl 27 (by decide) (hm _ w704) (fun _ h9 => h9) d_Mo_turnOver_129) ?_
  refine mx_all_cons (ok_aload (fun hl kk => lv_aload_n X.1.1 X.1.2.1 d_Mo_turnOver_132 rfl hl kk) (fun hl kk => lv_aload_nN X.1.1 X.1.2.1 d_Mo_turnOver_132 rfl hl kk)) ?_
  refine mx_all_cons (ok_get (C := "HeaderScheduleModel") (T := T_Mo) (N := 40) X (mw_up in_Mo) rfl 20 (by decide) (hm _ w697) (fun _ h9 => h9) d_Mo_turnOver_133) ?_
  refine mx_all_cons (ok_aload (fun hl kk => lv_aload_n X.1.1 X.1.2.1 d_Mo_turnOver_136 rfl hl kk) (fun hl kk => lv_aload_nN X.1.1 X.1.2.1 d_Mo_turnOver_136 rfl hl kk)) ?_
  refine mx_all_cons (ok_get (C := "HeaderScheduleModel") (T := T_Mo) (N := 40) X (mw_up in_Mo) rfl 26 (by decide) (hm _ w703) (fun _ h9 => h9) d_Mo_turnOver_137) ?_
  refine mx_all_cons (ok_iald X d_Mo_turnOver_140) ?_
  refine mx_all_cons (ok_icmp (fun kt kf => lv_icmp_ne X.1.1 X.1.2.1 d_Mo_turnOver_141 (by decide) kt (fun z => kf (fun g => g z)))) ?_
  refine mx_all_cons (ok_push (fun kk => lv_iconst X.1.1 X.1.2.1 d_Mo_turnOver_144 (by decide) kk)) ?_
  refine mx_all_cons (ok_goto X d_Mo_turnOver_145 (by decide)) ?_
  refine mx_all_cons (ok_aload (fun hl kk => lv_aload_n X.1.1 X.1.2.1 d_Mo_turnOver_148 rfl hl kk) (fun hl kk => lv_aload_nN X.1.1 X.1.2.1 d_Mo_turnOver_148 rfl hl kk)) ?_
  refine mx_all_cons (ok_get (C := "HeaderScheduleModel") (T := T_Mo) (N := 40) X (mw_up in_Mo) rfl 27 (by decide) (hm _ w704) (fun _ h9 => h9) d_Mo_turnOver_149) ?_
  refine mx_all_cons (ok_put (C := "HeaderScheduleModel") (T := T_Mo) (N := 40) X (mw_up in_Mo) ty_Mo tyok_Mo nm_Mo rfl 27 (by decide) (hm _ w704) (fun _ h9 => h9) rfl (tyok_Mo 27 (by decide)) mx_vI_ok d_Mo_turnOver_152) ?_
  refine mx_all_cons (ok_vret X hr hlk d_Mo_turnOver_155) ?_
  exact mx_all_nil
theorem st_Mo_turnOver_0 (zz : Nat × Nat) (r : mx_T) (ls : mx_L) (st : List Value) (h : mx_H) (c n : Nat) : mx_G r (t_Mo_turnOver zz) 0 ls st h c n = (o_aload 1 0) r (mx_G r (t_Mo_turnOver zz)) 0 ls st h c n := mx_G_eq (tm_Mo_turnOver zz) r 0 ls st h c n
theorem st_Mo_turnOver_1 (zz : Nat × Nat) (r : mx_T) (ls : mx_L) (st : List Value) (h : mx_H) (c n : Nat) : mx_G r (t_Mo_turnOver zz) 1 ls st h c n = (o_get 10 33) r (mx_G r (t_Mo_turnOver zz)) 1 ls st h c n := mx_G_eq (tm_Mo_turnOver zz) r 1 ls st h c n
theorem st_Mo_turnOver_4 (zz : Nat × Nat) (r : mx_T) (ls : mx_L) (st : List Value) (h : mx_H) (c n : Nat) : mx_G r (t_Mo_turnOver zz) 4 ls st h c n = (o_if 51 (fun x => x ≤ 0)) r (mx_G r (t_Mo_turnOver zz)) 4 ls st h c n := mx_G_eq (tm_Mo_turnOver zz) r 4 ls st h c n
theorem st_Mo_turnOver_7 (zz : Nat × Nat) (r : mx_T) (ls : mx_L) (st : List Value) (h : mx_H) (c n : Nat) : mx_G r (t_Mo_turnOver zz) 7 ls st h c n = (o_aload 1 0) r (mx_G r (t_Mo_turnOver zz)) 7 ls st h c n := mx_G_eq (tm_Mo_turnOver zz) r 7 ls st h c n
theorem st_Mo_turnOver_8 (zz : Nat × Nat) (r : mx_T) (ls : mx_L) (st : List Value) (h : mx_H) (c n : Nat) : mx_G r (t_Mo_turnOver zz) 8 ls st h c n = (o_aload 1 0) r (mx_G r (t_Mo_turnOver zz)) 8 ls st h c n := mx_G_eq (tm_Mo_turnOver zz) r 8 ls st h c n
theorem st_Mo_turnOver_9 (zz : Nat × Nat) (r : mx_T) (ls : mx_L) (st : List Value) (h : mx_H) (c n : Nat) : mx_G r (t_Mo_turnOver zz) 9 ls st h c n = (o_get 10 26) r (mx_G r (t_Mo_turnOver zz)) 9 ls st h c n := mx_G_eq (tm_Mo_turnOver zz) r 9 ls st h c n
theorem st_Mo_turnOver_12 (zz : Nat × Nat) (r : mx_T) (ls : mx_L) (st : List Value) (h : mx_H) (c n : Nat) : mx_G r (t_Mo_turnOver zz) 12 ls st h c n = (o_put 10 30 mx_vI) r (mx_G r (t_Mo_turnOver zz)) 12 ls st h c n := mx_G_eq (tm_Mo_turnOver zz) r 12 ls st h c n
theorem st_Mo_turnOver_15 (zz : Nat × Nat) (r : mx_T) (ls : mx_L) (st : List Value) (h : mx_H) (c n : Nat) : mx_G r (t_Mo_turnOver zz) 15 ls st h c n = (o_aload 1 0) r (mx_G r (t_Mo_turnOver zz)) 15 ls st h c n := mx_G_eq (tm_Mo_turnOver zz) r 15 ls st h c n
theorem st_Mo_turnOver_16 (zz : Nat × Nat) (r : mx_T) (ls : mx_L) (st : List Value) (h : mx_H) (c n : Nat) : mx_G r (t_Mo_turnOver zz) 16 ls st h c n = (o_aload 1 0) r (mx_G r (t_Mo_turnOver zz)) 16 ls st h c n := mx_G_eq (tm_Mo_turnOver zz) r 16 ls st h c n
theorem st_Mo_turnOver_17 (zz : Nat × Nat) (r : mx_T) (ls : mx_L) (st : List Value) (h : mx_H) (c n : Nat) : mx_G r (t_Mo_turnOver zz) 17 ls st h c n = (o_get 10 27) r (mx_G r (t_Mo_turnOver zz)) 17 ls st h c n := mx_G_eq (tm_Mo_turnOver zz) r 17 ls st h c n
theorem st_Mo_turnOver_20 (zz : Nat × Nat) (r : mx_T) (ls : mx_L) (st : List Value) (h : mx_H) (c n : Nat) : mx_G r (t_Mo_turnOver zz) 20 ls st h c n = (o_put 10 31 mx_vI) r (mx_G r (t_Mo_turnOver zz)) 20 ls st h c n := mx_G_eq (tm_Mo_turnOver zz) r 20 ls st h c n
theorem st_Mo_turnOver_23 (zz : Nat × Nat) (r : mx_T) (ls : mx_L) (st : List Value) (h : mx_H) (c n : Nat) : mx_G r (t_Mo_turnOver zz) 23 ls st h c n = (o_aload 1 0) r (mx_G r (t_Mo_turnOver zz)) 23 ls st h c n := mx_G_eq (tm_Mo_turnOver zz) r 23 ls st h c n
theorem st_Mo_turnOver_24 (zz : Nat × Nat) (r : mx_T) (ls : mx_L) (st : List Value) (h : mx_H) (c n : Nat) : mx_G r (t_Mo_turnOver zz) 24 ls st h c n = (o_aload 1 0) r (mx_G r (t_Mo_turnOver zz)) 24 ls st h c n := mx_G_eq (tm_Mo_turnOver zz) r 24 ls st h c n
theorem st_Mo_turnOver_25 (zz : Nat × Nat) (r : mx_T) (ls : mx_L) (st : List Value) (h : mx_H) (c n : Nat) : mx_G r (t_Mo_turnOver zz) 25 ls st h c n = (o_get 10 19) r (mx_G r (t_Mo_turnOver zz)) 25 ls st h c n := mx_G_eq (tm_Mo_turnOver zz) r 25 ls st h c n
theorem st_Mo_turnOver_28 (zz : Nat × Nat) (r : mx_T) (ls : mx_L) (st : List Value) (h : mx_H) (c n : Nat) : mx_G r (t_Mo_turnOver zz) 28 ls st h c n = (o_aload 1 0) r (mx_G r (t_Mo_turnOver zz)) 28 ls st h c n := mx_G_eq (tm_Mo_turnOver zz) r 28 ls st h c n
theorem st_Mo_turnOver_29 (zz : Nat × Nat) (r : mx_T) (ls : mx_L) (st : List Value) (h : mx_H) (c n : Nat) : mx_G r (t_Mo_turnOver zz) 29 ls st h c n = (o_get 10 33) r (mx_G r (t_Mo_turnOver zz)) 29 ls st h c n := mx_G_eq (tm_Mo_turnOver zz) r 29 ls st h c n
theorem st_Mo_turnOver_32 (zz : Nat × Nat) (r : mx_T) (ls : mx_L) (st : List Value) (h : mx_H) (c n : Nat) : mx_G r (t_Mo_turnOver zz) 32 ls st h c n = (o_push 1 (.int 1)) r (mx_G r (t_Mo_turnOver zz)) 32 ls st h c n := mx_G_eq (tm_Mo_turnOver zz) r 32 ls st h c n
theorem st_Mo_turnOver_33 (zz : Nat × Nat) (r : mx_T) (ls : mx_L) (st : List Value) (h : mx_H) (c n : Nat) : mx_G r (t_Mo_turnOver zz) 33 ls st h c n = (o_ii (fun x y => x - y)) r (mx_G r (t_Mo_turnOver zz)) 33 ls st h c n := mx_G_eq (tm_Mo_turnOver zz) r 33 ls st h c n
theorem st_Mo_turnOver_34 (zz : Nat × Nat) (r : mx_T) (ls : mx_L) (st : List Value) (h : mx_H) (c n : Nat) : mx_G r (t_Mo_turnOver zz) 34 ls st h c n = (o_iald .int) r (mx_G r (t_Mo_turnOver zz)) 34 ls st h c n := mx_G_eq (tm_Mo_turnOver zz) r 34 ls st h c n
theorem st_Mo_turnOver_35 (zz : Nat × Nat) (r : mx_T) (ls : mx_L) (st : List Value) (h : mx_H) (c n : Nat) : mx_G r (t_Mo_turnOver zz) 35 ls st h c n = (o_put 10 26 mx_vI) r (mx_G r (t_Mo_turnOver zz)) 35 ls st h c n := mx_G_eq (tm_Mo_turnOver zz) r 35 ls st h c n
theorem st_Mo_turnOver_38 (zz : Nat × Nat) (r : mx_T) (ls : mx_L) (st : List Value) (h : mx_H) (c n : Nat) : mx_G r (t_Mo_turnOver zz) 38 ls st h c n = (o_aload 1 0) r (mx_G r (t_Mo_turnOver zz)) 38 ls st h c n := mx_G_eq (tm_Mo_turnOver zz) r 38 ls st h c n
theorem st_Mo_turnOver_39 (zz : Nat × Nat) (r : mx_T) (ls : mx_L) (st : List Value) (h : mx_H) (c n : Nat) : mx_G r (t_Mo_turnOver zz) 39 ls st h c n = (o_push 1 (.int 0)) r (mx_G r (t_Mo_turnOver zz)) 39 ls st h c n := mx_G_eq (tm_Mo_turnOver zz) r 39 ls st h c n
theorem st_Mo_turnOver_40 (zz : Nat × Nat) (r : mx_T) (ls : mx_L) (st : List Value) (h : mx_H) (c n : Nat) : mx_G r (t_Mo_turnOver zz) 40 ls st h c n = (o_put 10 27 mx_vI) r (mx_G r (t_Mo_turnOver zz)) 40 ls st h c n := mx_G_eq (tm_Mo_turnOver zz) r 40 ls st h c n
theorem st_Mo_turnOver_43 (zz : Nat × Nat) (r : mx_T) (ls : mx_L) (st : List Value) (h : mx_H) (c n : Nat) : mx_G r (t_Mo_turnOver zz) 43 ls st h c n = (o_aload 1 0) r (mx_G r (t_Mo_turnOver zz)) 43 ls st h c n := mx_G_eq (tm_Mo_turnOver zz) r 43 ls st h c n
theorem st_Mo_turnOver_44 (zz : Nat × Nat) (r : mx_T) (ls : mx_L) (st : List Value) (h : mx_H) (c n : Nat) : mx_G r (t_Mo_turnOver zz) 44 ls st h c n = (o_push 1 (.int 1)) r (mx_G r (t_Mo_turnOver zz)) 44 ls st h c n := mx_G_eq (tm_Mo_turnOver zz) r 44 ls st h c n
theorem st_Mo_turnOver_45 (zz : Nat × Nat) (r : mx_T) (ls : mx_L) (st : List Value) (h : mx_H) (c n : Nat) : mx_G r (t_Mo_turnOver zz) 45 ls st h c n = (o_put 10 29 mx_vZ) r (mx_G r (t_Mo_turnOver zz)) 45 ls st h c n := mx_G_eq (tm_Mo_turnOver zz) r 45 ls st h c n
theorem st_Mo_turnOver_48 (zz : Nat × Nat) (r : mx_T) (ls : mx_L) (st : List Value) (h : mx_H) (c n : Nat) : mx_G r (t_Mo_turnOver zz) 48 ls st h c n = (o_goto 95) r (mx_G r (t_Mo_turnOver zz)) 48 ls st h c n := mx_G_eq (tm_Mo_turnOver zz) r 48 ls st h c n
theorem st_Mo_turnOver_51 (zz : Nat × Nat) (r : mx_T) (ls : mx_L) (st : List Value) (h : mx_H) (c n : Nat) : mx_G r (t_Mo_turnOver zz) 51 ls st h c n = (o_aload 1 0) r (mx_G r (t_Mo_turnOver zz)) 51 ls st h c n := mx_G_eq (tm_Mo_turnOver zz) r 51 ls st h c n
theorem st_Mo_turnOver_52 (zz : Nat × Nat) (r : mx_T) (ls : mx_L) (st : List Value) (h : mx_H) (c n : Nat) : mx_G r (t_Mo_turnOver zz) 52 ls st h c n = (o_get 10 29) r (mx_G r (t_Mo_turnOver zz)) 52 ls st h c n := mx_G_eq (tm_Mo_turnOver zz) r 52 ls st h c n
theorem st_Mo_turnOver_55 (zz : Nat × Nat) (r : mx_T) (ls : mx_L) (st : List Value) (h : mx_H) (c n : Nat) : mx_G r (t_Mo_turnOver zz) 55 ls st h c n = (o_if 95 (fun x => x = 0)) r (mx_G r (t_Mo_turnOver zz)) 55 ls st h c n := mx_G_eq (tm_Mo_turnOver zz) r 55 ls st h c n
theorem st_Mo_turnOver_58 (zz : Nat × Nat) (r : mx_T) (ls : mx_L) (st : List Value) (h : mx_H) (c n : Nat) : mx_G r (t_Mo_turnOver zz) 58 ls st h c n = (o_aload 1 0) r (mx_G r (t_Mo_turnOver zz)) 58 ls st h c n := mx_G_eq (tm_Mo_turnOver zz) r 58 ls st h c n
theorem st_Mo_turnOver_59 (zz : Nat × Nat) (r : mx_T) (ls : mx_L) (st : List Value) (h : mx_H) (c n : Nat) : mx_G r (t_Mo_turnOver zz) 59 ls st h c n = (o_get 10 27) r (mx_G r (t_Mo_turnOver zz)) 59 ls st h c n := mx_G_eq (tm_Mo_turnOver zz) r 59 ls st h c n
theorem st_Mo_turnOver_62 (zz : Nat × Nat) (r : mx_T) (ls : mx_L) (st : List Value) (h : mx_H) (c n : Nat) : mx_G r (t_Mo_turnOver zz) 62 ls st h c n = (o_aload 1 0) r (mx_G r (t_Mo_turnOver zz)) 62 ls st h c n := mx_G_eq (tm_Mo_turnOver zz) r 62 ls st h c n
theorem st_Mo_turnOver_63 (zz : Nat × Nat) (r : mx_T) (ls : mx_L) (st : List Value) (h : mx_H) (c n : Nat) : mx_G r (t_Mo_turnOver zz) 63 ls st h c n = (o_get 10 20) r (mx_G r (t_Mo_turnOver zz)) 63 ls st h c n := mx_G_eq (tm_Mo_turnOver zz) r 63 ls st h c n
theorem st_Mo_turnOver_66 (zz : Nat × Nat) (r : mx_T) (ls : mx_L) (st : List Value) (h : mx_H) (c n : Nat) : mx_G r (t_Mo_turnOver zz) 66 ls st h c n = (o_aload 1 0) r (mx_G r (t_Mo_turnOver zz)) 66 ls st h c n := mx_G_eq (tm_Mo_turnOver zz) r 66 ls st h c n
theorem st_Mo_turnOver_67 (zz : Nat × Nat) (r : mx_T) (ls : mx_L) (st : List Value) (h : mx_H) (c n : Nat) : mx_G r (t_Mo_turnOver zz) 67 ls st h c n = (o_get 10 26) r (mx_G r (t_Mo_turnOver zz)) 67 ls st h c n := mx_G_eq (tm_Mo_turnOver zz) r 67 ls st h c n
theorem st_Mo_turnOver_70 (zz : Nat × Nat) (r : mx_T) (ls : mx_L) (st : List Value) (h : mx_H) (c n : Nat) : mx_G r (t_Mo_turnOver zz) 70 ls st h c n = (o_iald .int) r (mx_G r (t_Mo_turnOver zz)) 70 ls st h c n := mx_G_eq (tm_Mo_turnOver zz) r 70 ls st h c n
theorem st_Mo_turnOver_71 (zz : Nat × Nat) (r : mx_T) (ls : mx_L) (st : List Value) (h : mx_H) (c n : Nat) : mx_G r (t_Mo_turnOver zz) 71 ls st h c n = (o_icmp 95 (fun x y => ¬ x = y)) r (mx_G r (t_Mo_turnOver zz)) 71 ls st h c n := mx_G_eq (tm_Mo_turnOver zz) r 71 ls st h c n
theorem st_Mo_turnOver_74 (zz : Nat × Nat) (r : mx_T) (ls : mx_L) (st : List Value) (h : mx_H) (c n : Nat) : mx_G r (t_Mo_turnOver zz) 74 ls st h c n = (o_aload 1 0) r (mx_G r (t_Mo_turnOver zz)) 74 ls st h c n := mx_G_eq (tm_Mo_turnOver zz) r 74 ls st h c n
theorem st_Mo_turnOver_75 (zz : Nat × Nat) (r : mx_T) (ls : mx_L) (st : List Value) (h : mx_H) (c n : Nat) : mx_G r (t_Mo_turnOver zz) 75 ls st h c n = (o_push 1 (.int 0)) r (mx_G r (t_Mo_turnOver zz)) 75 ls st h c n := mx_G_eq (tm_Mo_turnOver zz) r 75 ls st h c n
theorem st_Mo_turnOver_76 (zz : Nat × Nat) (r : mx_T) (ls : mx_L) (st : List Value) (h : mx_H) (c n : Nat) : mx_G r (t_Mo_turnOver zz) 76 ls st h c n = (o_put 10 29 mx_vZ) r (mx_G r (t_Mo_turnOver zz)) 76 ls st h c n := mx_G_eq (tm_Mo_turnOver zz) r 76 ls st h c n
theorem st_Mo_turnOver_79 (zz : Nat × Nat) (r : mx_T) (ls : mx_L) (st : List Value) (h : mx_H) (c n : Nat) : mx_G r (t_Mo_turnOver zz) 79 ls st h c n = (o_aload 1 0) r (mx_G r (t_Mo_turnOver zz)) 79 ls st h c n := mx_G_eq (tm_Mo_turnOver zz) r 79 ls st h c n
theorem st_Mo_turnOver_80 (zz : Nat × Nat) (r : mx_T) (ls : mx_L) (st : List Value) (h : mx_H) (c n : Nat) : mx_G r (t_Mo_turnOver zz) 80 ls st h c n = (o_aload 1 0) r (mx_G r (t_Mo_turnOver zz)) 80 ls st h c n := mx_G_eq (tm_Mo_turnOver zz) r 80 ls st h c n
theorem st_Mo_turnOver_81 (zz : Nat × Nat) (r : mx_T) (ls : mx_L) (st : List Value) (h : mx_H) (c n : Nat) : mx_G r (t_Mo_turnOver zz) 81 ls st h c n = (o_get 10 30) r (mx_G r (t_Mo_turnOver zz)) 81 ls st h c n := mx_G_eq (tm_Mo_turnOver zz) r 81 ls st h c n
theorem st_Mo_turnOver_84 (zz : Nat × Nat) (r : mx_T) (ls : mx_L) (st : List Value) (h : mx_H) (c n : Nat) : mx_G r (t_Mo_turnOver zz) 84 ls st h c n = (o_put 10 26 mx_vI) r (mx_G r (t_Mo_turnOver zz)) 84 ls st h c n := mx_G_eq (tm_Mo_turnOver zz) r 84 ls st h c n
theorem st_Mo_turnOver_87 (zz : Nat × Nat) (r : mx_T) (ls : mx_L) (st : List Value) (h : mx_H) (c n : Nat) : mx_G r (t_Mo_turnOver zz) 87 ls st h c n = (o_aload 1 0) r (mx_G r (t_Mo_turnOver zz)) 87 ls st h c n := mx_G_eq (tm_Mo_turnOver zz) r 87 ls st h c n
theorem st_Mo_turnOver_88 (zz : Nat × Nat) (r : mx_T) (ls : mx_L) (st : List Value) (h : mx_H) (c n : Nat) : mx_G r (t_Mo_turnOver zz) 88 ls st h c n = (o_aload 1 0) r (mx_G r (t_Mo_turnOver zz)) 88 ls st h c n := mx_G_eq (tm_Mo_turnOver zz) r 88 ls st h c n
theorem st_Mo_turnOver_89 (zz : Nat × Nat) (r : mx_T) (ls : mx_L) (st : List Value) (h : mx_H) (c n : Nat) : mx_G r (t_Mo_turnOver zz) 89 ls st h c n = (o_get 10 31) r (mx_G r (t_Mo_turnOver zz)) 89 ls st h c n := mx_G_eq (tm_Mo_turnOver zz) r 89 ls st h c n
theorem st_Mo_turnOver_92 (zz : Nat × Nat) (r : mx_T) (ls : mx_L) (st : List Value) (h : mx_H) (c n : Nat) : mx_G r (t_Mo_turnOver zz) 92 ls st h c n = (o_put 10 27 mx_vI) r (mx_G r (t_Mo_turnOver zz)) 92 ls st h c n := mx_G_eq (tm_Mo_turnOver zz) r 92 ls st h c n
theorem st_Mo_turnOver_95 (zz : Nat × Nat) (r : mx_T) (ls : mx_L) (st : List Value) (h : mx_H) (c n : Nat) : mx_G r (t_Mo_turnOver zz) 95 ls st h c n = (o_aload 1 0) r (mx_G r (t_Mo_turnOver zz)) 95 ls st h c n := mx_G_eq (tm_Mo_turnOver zz) r 95 ls st h c n
theorem st_Mo_turnOver_96 (zz : Nat × Nat) (r : mx_T) (ls : mx_L) (st : List Value) (h : mx_H) (c n : Nat) : mx_G r (t_Mo_turnOver zz) 96 ls st h c n = (o_get 10 29) r (mx_G r (t_Mo_turnOver zz)) 96 ls st h c n := mx_G_eq (tm_Mo_turnOver zz) r 96 ls st h c n
theorem st_Mo_turnOver_99 (zz : Nat × Nat) (r : mx_T) (ls : mx_L) (st : List Value) (h : mx_H) (c n : Nat) : mx_G r (t_Mo_turnOver zz) 99 ls st h c n = (o_if 127 (fun x => ¬ x = 0)) r (mx_G r (t_Mo_turnOver zz)) 99 ls st h c n := mx_G_eq (tm_Mo_turnOver zz) r 99 ls st h c n
theorem st_Mo_turnOver_102 (zz : Nat × Nat) (r : mx_T) (ls : mx_L) (st : List Value) (h : mx_H) (c n : Nat) : mx_G r (t_Mo_turnOver zz) 102 ls st h c n = (o_aload 1 0) r (mx_G r (t_Mo_turnOver zz)) 102 ls st h c n := mx_G_eq (tm_Mo_turnOver zz) r 102 ls st h c n
theorem st_Mo_turnOver_103 (zz : Nat × Nat) (r : mx_T) (ls : mx_L) (st : List Value) (h : mx_H) (c n : Nat) : mx_G r (t_Mo_turnOver zz) 103 ls st h c n = (o_get 10 32) r (mx_G r (t_Mo_turnOver zz)) 103 ls st h c n := mx_G_eq (tm_Mo_turnOver zz) r 103 ls st h c n
theorem st_Mo_turnOver_106 (zz : Nat × Nat) (r : mx_T) (ls : mx_L) (st : List Value) (h : mx_H) (c n : Nat) : mx_G r (t_Mo_turnOver zz) 106 ls st h c n = (o_if 127 (fun x => x < 0)) r (mx_G r (t_Mo_turnOver zz)) 106 ls st h c n := mx_G_eq (tm_Mo_turnOver zz) r 106 ls st h c n
theorem st_Mo_turnOver_109 (zz : Nat × Nat) (r : mx_T) (ls : mx_L) (st : List Value) (h : mx_H) (c n : Nat) : mx_G r (t_Mo_turnOver zz) 109 ls st h c n = (o_aload 1 0) r (mx_G r (t_Mo_turnOver zz)) 109 ls st h c n := mx_G_eq (tm_Mo_turnOver zz) r 109 ls st h c n
theorem st_Mo_turnOver_110 (zz : Nat × Nat) (r : mx_T) (ls : mx_L) (st : List Value) (h : mx_H) (c n : Nat) : mx_G r (t_Mo_turnOver zz) 110 ls st h c n = (o_aload 1 0) r (mx_G r (t_Mo_turnOver zz)) 110 ls st h c n := mx_G_eq (tm_Mo_turnOver zz) r 110 ls st h c n
theorem st_Mo_turnOver_111 (zz : Nat × Nat) (r : mx_T) (ls : mx_L) (st : List Value) (h : mx_H) (c n : Nat) : mx_G r (t_Mo_turnOver zz) 111 ls st h c n = (o_get 10 32) r (mx_G r (t_Mo_turnOver zz)) 111 ls st h c n := mx_G_eq (tm_Mo_turnOver zz) r 111 ls st h c n
theorem st_Mo_turnOver_114 (zz : Nat × Nat) (r : mx_T) (ls : mx_L) (st : List Value) (h : mx_H) (c n : Nat) : mx_G r (t_Mo_turnOver zz) 114 ls st h c n = (o_put 10 26 mx_vI) r (mx_G r (t_Mo_turnOver zz)) 114 ls st h c n := mx_G_eq (tm_Mo_turnOver zz) r 114 ls st h c n
theorem st_Mo_turnOver_117 (zz : Nat × Nat) (r : mx_T) (ls : mx_L) (st : List Value) (h : mx_H) (c n : Nat) : mx_G r (t_Mo_turnOver zz) 117 ls st h c n = (o_aload 1 0) r (mx_G r (t_Mo_turnOver zz)) 117 ls st h c n := mx_G_eq (tm_Mo_turnOver zz) r 117 ls st h c n
theorem st_Mo_turnOver_118 (zz : Nat × Nat) (r : mx_T) (ls : mx_L) (st : List Value) (h : mx_H) (c n : Nat) : mx_G r (t_Mo_turnOver zz) 118 ls st h c n = (o_push 1 (.int 0)) r (mx_G r (t_Mo_turnOver zz)) 118 ls st h c n := mx_G_eq (tm_Mo_turnOver zz) r 118 ls st h c n
theorem st_Mo_turnOver_119 (zz : Nat × Nat) (r : mx_T) (ls : mx_L) (st : List Value) (h : mx_H) (c n : Nat) : mx_G r (t_Mo_turnOver zz) 119 ls st h c n = (o_put 10 27 mx_vI) r (mx_G r (t_Mo_turnOver zz)) 119 ls st h c n := mx_G_eq (tm_Mo_turnOver zz) r 119 ls st h c n
theorem st_Mo_turnOver_122 (zz : Nat × Nat) (r : mx_T) (ls : mx_L) (st : List Value) (h : mx_H) (c n : Nat) : mx_G r (t_Mo_turnOver zz) 122 ls st h c n = (o_aload 1 0) r (mx_G r (t_Mo_turnOver zz)) 122 ls st h c n := mx_G_eq (tm_Mo_turnOver zz) r 122 ls st h c n
theorem st_Mo_turnOver_123 (zz : Nat × Nat) (r : mx_T) (ls : mx_L) (st : List Value) (h : mx_H) (c n : Nat) : mx_G r (t_Mo_turnOver zz) 123 ls st h c n = (o_push 1 (.int (-1))) r (mx_G r (t_Mo_turnOver zz)) 123 ls st h c n := mx_G_eq (tm_Mo_turnOver zz) r 123 ls st h c n
theorem st_Mo_turnOver_124 (zz : Nat × Nat) (r : mx_T) (ls : mx_L) (st : List Value) (h : mx_H) (c n : Nat) : mx_G r (t_Mo_turnOver zz) 124 ls st h c n = (o_put 10 32 mx_vI) r (mx_G r (t_Mo_turnOver zz)) 124 ls st h c n := mx_G_eq (tm_Mo_turnOver zz) r 124 ls st h c n
theorem st_Mo_turnOver_127 (zz : Nat × Nat) (r : mx_T) (ls : mx_L) (st : List Value) (h : mx_H) (c n : Nat) : mx_G r (t_Mo_turnOver zz) 127 ls st h c n = (o_aload 1 0) r (mx_G r (t_Mo_turnOver zz)) 127 ls st h c n := mx_G_eq (tm_Mo_turnOver zz) r 127 ls st h c n
theorem st_Mo_turnOver_128 (zz : Nat × Nat) (r : mx_T) (ls : mx_L) (st : List Value) (h : mx_H) (c n : Nat) : mx_G r (t_Mo_turnOver zz) 128 ls st h c n = (o_aload 1 0) r (mx_G r (t_Mo_turnOver zz)) 128 ls st h c n := mx_G_eq (tm_Mo_turnOver zz) r 128 ls st h c n
theorem st_Mo_turnOver_129 (zz : Nat × Nat) (r : mx_T) (ls : mx_L) (st : List Value) (h : mx_H) (c n : Nat) : mx_G r (t_Mo_turnOver zz) 129 ls st h c n = (o_get 10 27) r (mx_G r (t_Mo_turnOver zz)) 129 ls st h c n := mx_G_eq (tm_Mo_turnOver zz) r 129 ls st h c n
theorem st_Mo_turnOver_132 (zz : Nat × Nat) (r : mx_T) (ls : mx_L) (st : List Value) (h : mx_H) (c n : Nat) : mx_G r (t_Mo_turnOver zz) 132 ls st h c n = (o_aload 1 0) r (mx_G r (t_Mo_turnOver zz)) 132 ls st h c n := mx_G_eq (tm_Mo_turnOver zz) r 132 ls st h c n
theorem st_Mo_turnOver_133 (zz : Nat × Nat) (r : mx_T) (ls : mx_L) (st : List Value) (h : mx_H) (c n : Nat) : mx_G r (t_Mo_turnOver zz) 133 ls st h c n = (o_get 10 20) r (mx_G r (t_Mo_turnOver zz)) 133 ls st h c n := mx_G_eq (tm_Mo_turnOver zz) r 133 ls st h c n
theorem st_Mo_turnOver_136 (zz : Nat × Nat) (r : mx_T) (ls : mx_L) (st : List Value) (h : mx_H) (c n : Nat) : mx_G r (t_Mo_turnOver zz) 136 ls st h c n = (o_aload 1 0) r (mx_G r (t_Mo_turnOver zz)) 136 ls st h c n := mx_G_eq (tm_Mo_turnOver zz) r 136 ls st h c n
theorem st_Mo_turnOver_137 (zz : Nat × Nat) (r : mx_T) (ls : mx_L) (st : List Value) (h : mx_H) (c n : Nat) : mx_G r (t_Mo_turnOver zz) 137 ls st h c n = (o_get 10 26) r (mx_G r (t_Mo_turnOver zz)) 137 ls st h c n := mx_G_eq (tm_Mo_turnOver zz) r 137 ls st h c n
theorem st_Mo_turnOver_140 (zz : Nat × Nat) (r : mx_T) (ls : mx_L) (st : List Value) (h : mx_H) (c n : Nat) : mx_G r (t_Mo_turnOver zz) 140 ls st h c n = (o_iald .int) r (mx_G r (t_Mo_turnOver zz)) 140 ls st h c n := mx_G_eq (tm_Mo_turnOver zz) r 140 ls st h c n
theorem st_Mo_turnOver_141 (zz : Nat × Nat) (r : mx_T) (ls : mx_L) (st : List Value) (h : mx_H) (c n : Nat) : mx_G r (t_Mo_turnOver zz) 141 ls st h c n = (o_icmp 148 (fun x y => ¬ x = y)) r (mx_G r (t_Mo_turnOver zz)) 141 ls st h c n := mx_G_eq (tm_Mo_turnOver zz) r 141 ls st h c n
theorem st_Mo_turnOver_144 (zz : Nat × Nat) (r : mx_T) (ls : mx_L) (st : List Value) (h : mx_H) (c n : Nat) : mx_G r (t_Mo_turnOver zz) 144 ls st h c n = (o_push 1 (.int 0)) r (mx_G r (t_Mo_turnOver zz)) 144 ls st h c n := mx_G_eq (tm_Mo_turnOver zz) r 144 ls st h c n
theorem st_Mo_turnOver_145 (zz : Nat × Nat) (r : mx_T) (ls : mx_L) (st : List Value) (h : mx_H) (c n : Nat) : mx_G r (t_Mo_turnOver zz) 145 ls st h c n = (o_goto 152) r (mx_G r (t_Mo_turnOver zz)) 145 ls st h c n := mx_G_eq (tm_Mo_turnOver zz) r 145 ls st h c n
theorem st_Mo_turnOver_148 (zz : Nat × Nat) (r : mx_T) (ls : mx_L) (st : List Value) (h : mx_H) (c n : Nat) : mx_G r (t_Mo_turnOver zz) 148 ls st h c n = (o_aload 1 0) r (mx_G r (t_Mo_turnOver zz)) 148 ls st h c n := mx_G_eq (tm_Mo_turnOver zz) r 148 ls st h c n
theorem st_Mo_turnOver_149 (zz : Nat × Nat) (r : mx_T) (ls : mx_L) (st : List Value) (h : mx_H) (c n : Nat) : mx_G r (t_Mo_turnOver zz) 149 ls st h c n = (o_get 10 27) r (mx_G r (t_Mo_turnOver zz)) 149 ls st h c n := mx_G_eq (tm_Mo_turnOver zz) r 149 ls st h c n
theorem st_Mo_turnOver_152 (zz : Nat × Nat) (r : mx_T) (ls : mx_L) (st : List Value) (h : mx_H) (c n : Nat) : mx_G r (t_Mo_turnOver zz) 152 ls st h c n = (o_put 10 27 mx_vI) r (mx_G r (t_Mo_turnOver zz)) 152 ls st h c n := mx_G_eq (tm_Mo_turnOver zz) r 152 ls st h c n
theorem st_Mo_turnOver_155 (zz : Nat × Nat) (r : mx_T) (ls : mx_L) (st : List Value) (h : mx_H) (c n : Nat) : mx_G r (t_Mo_turnOver zz) 155 ls st h c n = (o_vret) r (mx_G r (t_Mo_turnOver zz)) 155 ls st h c n := mx_G_eq (tm_Mo_turnOver zz) r 155 ls st h c n
theorem d_Mo_odd_0 : decode c_Mo_odd 0 = .ok (.iconst 0, 1) := by decide +kernel
theorem d_Mo_odd_1 : decode c_Mo_odd 1 = .ok (.istore_n 2, 1) := by decide +kernel
theorem d_Mo_odd_2 : decode c_Mo_odd 2 = .ok (.iconst 0, 1) := by decide +kernel
theorem d_Mo_odd_3 : decode c_Mo_odd 3 = .ok (.istore_n 3, 1) := by decide +kernel
theorem d_Mo_odd_4 : decode c_Mo_odd 4 = .ok (.iload_n 3, 1) := by decide +kernel
theorem d_Mo_odd_5 : decode c_Mo_odd 5 = .ok (.bipush 6, 2) := by decide +kernel
theorem d_Mo_odd_7 : decode c_Mo_odd 7 = .ok (.if_icmp .ge 30, 3) := by decide +kernel
theorem d_Mo_odd_10 : decode c_Mo_odd 10 = .ok (.iload_n 0, 1) := by decide +kernel
theorem d_Mo_odd_11 : decode c_Mo_odd 11 = .ok (.iload_n 3, 1) := by decide +kernel
theorem d_Mo_odd_12 : decode c_Mo_odd 12 = .ok (.ishr, 1) := by decide +kernel
theorem d_Mo_odd_13 : decode c_Mo_odd 13 = .ok (.iload_n 1, 1) := by decide +kernel
theorem d_Mo_odd_14 : decode c_Mo_odd 14 = .ok (.iload_n 3, 1) := by decide +kernel
theorem d_Mo_odd_15 : decode c_Mo_odd 15 = .ok (.ishr, 1) := by decide +kernel
theorem d_Mo_odd_16 : decode c_Mo_odd 16 = .ok (.iand, 1) := by decide +kernel
theorem d_Mo_odd_17 : decode c_Mo_odd 17 = .ok (.iconst 1, 1) := by decide +kernel
theorem d_Mo_odd_18 : decode c_Mo_odd 18 = .ok (.iand, 1) := by decide +kernel
theorem d_Mo_odd_19 : decode c_Mo_odd 19 = .ok (.iconst 1, 1) := by decide +kernel
theorem d_Mo_odd_20 : decode c_Mo_odd 20 = .ok (.if_icmp .ne 9, 3) := by decide +kernel
theorem d_Mo_odd_23 : decode c_Mo_odd 23 = .ok (.iload_n 2, 1) := by decide +kernel
theorem d_Mo_odd_24 : decode c_Mo_odd 24 = .ok (.iconst 1, 1) := by decide +kernel
theorem d_Mo_odd_25 : decode c_Mo_odd 25 = .ok (.iadd, 1) := by decide +kernel
theorem d_Mo_odd_26 : decode c_Mo_odd 26 = .ok (.goto 4, 3) := by decide +kernel
theorem d_Mo_odd_29 : decode c_Mo_odd 29 = .ok (.iload_n 2, 1) := by decide +kernel
theorem d_Mo_odd_30 : decode c_Mo_odd 30 = .ok (.istore_n 2, 1) := by decide +kernel
theorem d_Mo_odd_31 : decode c_Mo_odd 31 = .ok (.iinc 3 1, 3) := by decide +kernel
theorem d_Mo_odd_34 : decode c_Mo_odd 34 = .ok (.goto (-30), 3) := by decide +kernel
theorem d_Mo_odd_37 : decode c_Mo_odd 37 = .ok (.iload_n 2, 1) := by decide +kernel
theorem d_Mo_odd_38 : decode c_Mo_odd 38 = .ok (.iconst 2, 1) := by decide +kernel
theorem d_Mo_odd_39 : decode c_Mo_odd 39 = .ok (.irem, 1) := by decide +kernel
theorem d_Mo_odd_40 : decode c_Mo_odd 40 = .ok (.ireturn, 1) := by decide +kernel
def t_Mo_odd (zz : Nat × Nat) : List (Nat × mx_O) := [(0, o_push 1 (.int 0)),
  (1, o_istore 1 2),
  (2, o_push 1 (.int 0)),
  (3, o_istore 1 3),
  (4, o_iload 1 3),
  (5, o_push 2 (.int 6)),
  (7, o_icmp 37 (fun x y => y ≤ x)),
  (10, o_iload 1 0),
  (11, o_iload 1 3),
  (12, o_ii (fun x y => x >>> (y &&& 31))),
  (13, o_iload 1 1),
  (14, o_iload 1 3),
  (15, o_ii (fun x y => x >>> (y &&& 31))),
  (16, o_ii (fun x y => x &&& y)),
  (17, o_push 1 (.int 1)),
  (18, o_ii (fun x y => x &&& y)),
  (19, o_push 1 (.int 1)),
  (20, o_icmp 29 (fun x y => ¬ x = y)),
  (23, o_iload 1 2),
  (24, o_push 1 (.int 1)),
  (25, o_ii (fun x y => x + y)),
  (26, o_goto 30),
  (29, o_iload 1 2),
  (30, o_istore 1 2),
  (31, o_iinc 3 1),
  (34, o_goto 4),
  (37, o_iload 1 2),
  (38, o_push 1 (.int 2)),
  (39, o_iiz (fun x y => x - x / y * y)),
  (40, o_iret)]
set_option maxRecDepth 100000 in
theorem tm_Mo_odd (zz : Nat × Nat) : mx_All (fun _ o => mx_Mono o) (t_Mo_odd zz) := by
  refine mx_all_cons (mo_st) ?_
  refine mx_all_cons (mo_st) ?_
  refine mx_all_cons (mo_st) ?_
  refine mx_all_cons (mo_st) ?_
  refine mx_all_cons (mo_st) ?_
  refine mx_all_cons (mo_st) ?_
  refine mx_all_cons (mo_br) ?_
  refine mx_all_cons (mo_st) ?_
  refine mx_all_cons (mo_st) ?_
  refine mx_all_cons (mo_st) ?_
  refine mx_all_cons (mo_st) ?_
  refine mx_all_cons (mo_st) ?_
  refine mx_all_cons (mo_st) ?_
  refine mx_all_cons (mo_st) ?_
  refine mx_all_cons (mo_st) ?_
  refine mx_all_cons (mo_st) ?_
  refine mx_all_cons (mo_st) ?_
  refine mx_all_cons (mo_br) ?_
  refine mx_all_cons (mo_st) ?_
  refine mx_all_cons (mo_st) ?_
  refine mx_all_cons (mo_st) ?_
  refine mx_all_cons (mo_st) ?_
  refine mx_all_cons (mo_st) ?_
  refine mx_all_cons (mo_st) ?_
  refine mx_all_cons (mo_st) ?_
  refine mx_all_cons (mo_st) ?_
  refine mx_all_cons (mo_st) ?_
  refine mx_all_cons (mo_st) ?_
  refine mx_all_cons (mo_sc) ?_
  refine mx_all_cons (mo_ret) ?_
  exact mx_all_nil
def S_Mo_odd (zz : Nat × Nat) : mx_Sp := mx_S 4 0 0 (t_Mo_odd zz)
theorem sm_Mo_odd (zz : Nat × Nat) : mx_SMono (S_Mo_odd zz) := mx_S_mono (tm_Mo_odd zz)
abbrev rm_Mo_odd : Room := { frames := 0, cells := 0, slots := 0, locals := 0 }
set_option maxHeartbeats 4000000 in
set_option maxRecDepth 100000 in
theorem m_Mo_odd (l : Launch) (zz : Nat × Nat) : mx_Met l y_Mo_odd (wsOf y_Mo_odd c_Mo_odd 4 (some .int)) rm_Mo_odd wcl (mx_Z zz) 0 0 (S_Mo_odd zz) := by
  refine mx_met (cc := c_Mo_odd) (ret := (some .int)) (by decide) rfl ?_
  intro p e s m args below meth c D A Post X hz hr hlk hnm
  have hm : ∀ w ∈ mw, w.before args s = true := fun w h => X.1.2.2.2.2 w (List.mem_cons_of_mem _ h)
  refine mx_all_cons (ok_push (fun kk => lv_iconst X.1.1 X.1.2.1 d_Mo_odd_0 (by decide) kk)) ?_
  refine mx_all_cons (ok_istore (fun hl kk => lv_istore_n X.1.1 X.1.2.1 d_Mo_odd_1 rfl hl (by decide) rfl kk)) ?_
  refine mx_all_cons (ok_push (fun kk => lv_iconst X.1.1 X.1.2.1 d_Mo_odd_2 (by decide) kk)) ?_
  refine mx_all_cons (ok_istore (fun hl kk => lv_istore_n X.1.1 X.1.2.1 d_Mo_odd_3 rfl hl (by decide) rfl kk)) ?_
  refine mx_all_cons (ok_iload (fun hl kk => lv_iload_n X.1.1 X.1.2.1 d_Mo_odd_4 rfl hl kk)) ?_
  refine mx_all_cons (ok_push (fun kk => lv_bipush X.1.1 X.1.2.1 d_Mo_odd_5 (by decide) kk)) ?_
  refine mx_all_cons (ok_icmp (fun kt kf => lv_icmp_ge X.1.1 X.1.2.1 d_Mo_odd_7 (by decide) kt kf)) ?_
  refine mx_all_cons (ok_iload (fun hl kk => lv_iload_n X.1.1 X.1.2.1 d_Mo_odd_10 rfl hl kk)) ?_
  refine mx_all_cons (ok_iload (fun hl kk => lv_iload_n X.1.1 X.1.2.1 d_Mo_odd_11 rfl hl kk)) ?_
  refine mx_all_cons (ok_ii (fun kk => lv_ishr X.1.1 X.1.2.1 d_Mo_odd_12 kk)) ?_
  refine mx_all_cons (ok_iload (fun hl kk => lv_iload_n X.1.1 X.1.2.1 d_Mo_odd_13 rfl hl kk)) ?_
  refine mx_all_cons (ok_iload (fun hl kk => lv_iload_n X.1.1 X.1.2.1 d_Mo_odd_14 rfl hl kk)) ?_
  refine mx_all_cons (ok_ii (fun kk => lv_ishr X.1.1 X.1.2.1 d_Mo_odd_15 kk)) ?_
  refine mx_all_cons (ok_ii (fun kk => lv_iand X.1.1 X.1.2.1 d_Mo_odd_16 kk)) ?_
  refine mx_all_cons (ok_push (fun kk => lv_iconst X.1.1 X.1.2.1 d_Mo_odd_17 (by decide) kk)) ?_
  refine mx_all_cons (ok_ii (fun kk => lv_iand X.1.1 X.1.2.1 d_Mo_odd_18 kk)) ?_
  refine mx_all_cons (ok_push (fun kk => lv_iconst X.1.1 X.1.2.1 d_Mo_odd_19 (by decide) kk)) ?_
  refine mx_all_cons (ok_icmp (fun kt kf => lv_icmp_ne X.1.1 X.1.2.1 d_Mo_odd_20 (by decide) kt (fun z => kf (fun g => g z)))) ?_
  refine mx_all_cons (ok_iload (fun hl kk => lv_iload_n X.1.1 X.1.2.1 d_Mo_odd_23 rfl hl kk)) ?_
  refine mx_all_cons (ok_push (fun kk => lv_iconst X.1.1 X.1.2.1 d_Mo_odd_24 (by decide) kk)) ?_
  refine mx_all_cons (ok_ii (fun kk => lv_iadd X.1.1 X.1.2.1 d_Mo_odd_25 kk)) ?_
  refine mx_all_cons (ok_goto X d_Mo_odd_26 (by decide)) ?_
  refine mx_all_cons (ok_iload (fun hl kk => lv_iload_n X.1.1 X.1.2.1 d_Mo_odd_29 rfl hl kk)) ?_
  refine mx_all_cons (ok_istore (fun hl kk => lv_istore_n X.1.1 X.1.2.1 d_Mo_odd_30 rfl hl (by decide) rfl kk)) ?_
  refine mx_all_cons (ok_iinc X (by decide) (by decide) d_Mo_odd_31) ?_
  refine mx_all_cons (ok_goto X d_Mo_odd_34 (by decide)) ?_
  refine mx_all_cons (ok_iload (fun hl kk => lv_iload_n X.1.1 X.1.2.1 d_Mo_odd_37 rfl hl kk)) ?_
  refine mx_all_cons (ok_push (fun kk => lv_iconst X.1.1 X.1.2.1 d_Mo_odd_38 (by decide) kk)) ?_
  refine mx_all_cons (ok_iiz (fun hy kk => lv_irem X.1.1 X.1.2.1 d_Mo_odd_39 hy kk)) ?_
  refine mx_all_cons (ok_iret X hr hlk d_Mo_odd_40) ?_
  exact mx_all_nil
theorem st_Mo_odd_0 (zz : Nat × Nat) (r : mx_T) (ls : mx_L) (st : List Value) (h : mx_H) (c n : Nat) : mx_G r (t_Mo_odd zz) 0 ls st h c n = (o_push 1 (.int 0)) r (mx_G r (t_Mo_odd zz)) 0 ls st h c n := mx_G_eq (tm_Mo_odd zz) r 0 ls st h c n
theorem st_Mo_odd_1 (zz : Nat × Nat) (r : mx_T) (ls : mx_L) (st : List Value) (h : mx_H) (c n : Nat) : mx_G r (t_Mo_odd zz) 1 ls st h c n = (o_istore 1 2) r (mx_G r (t_Mo_odd zz)) 1 ls st h c n := mx_G_eq (tm_Mo_odd zz) r 1 ls st h c n
theorem st_Mo_odd_2 (zz : Nat × Nat) (r : mx_T) (ls : mx_L) (st : List Value) (h : mx_H) (c n : Nat) : mx_G r (t_Mo_odd zz) 2 ls st h c n = (o_push 1 (.int 0)) r (mx_G r (t_Mo_odd zz)) 2 ls st h c n := mx_G_eq (tm_Mo_odd zz) r 2 ls st h c n
theorem st_Mo_odd_3 (zz : Nat × Nat) (r : mx_T) (ls : mx_L) (st : List Value) (h : mx_H) (c n : Nat) : mx_G r (t_Mo_odd zz) 3 ls st h c n = (o_istore 1 3) r (mx_G r (t_Mo_odd zz)) 3 ls st h c n := mx_G_eq (tm_Mo_odd zz) r 3 ls st h c n
theorem st_Mo_odd_4 (zz : Nat × Nat) (r : mx_T) (ls : mx_L) (st : List Value) (h : mx_H) (c n : Nat) : mx_G r (t_Mo_odd zz) 4 ls st h c n = (o_iload 1 3) r (mx_G r (t_Mo_odd zz)) 4 ls st h c n := mx_G_eq (tm_Mo_odd zz) r 4 ls st h c n
theorem st_Mo_odd_5 (zz : Nat × Nat) (r : mx_T) (ls : mx_L) (st : List Value) (h : mx_H) (c n : Nat) : mx_G r (t_Mo_odd zz) 5 ls st h c n = (o_push 2 (.int 6)) r (mx_G r (t_Mo_odd zz)) 5 ls st h c n := mx_G_eq (tm_Mo_odd zz) r 5 ls st h c n
theorem st_Mo_odd_7 (zz : Nat × Nat) (r : mx_T) (ls : mx_L) (st : List Value) (h : mx_H) (c n : Nat) : mx_G r (t_Mo_odd zz) 7 ls st h c n = (o_icmp 37 (fun x y => y ≤ x)) r (mx_G r (t_Mo_odd zz)) 7 ls st h c n := mx_G_eq (tm_Mo_odd zz) r 7 ls st h c n
theorem st_Mo_odd_10 (zz : Nat × Nat) (r : mx_T) (ls : mx_L) (st : List Value) (h : mx_H) (c n : Nat) : mx_G r (t_Mo_odd zz) 10 ls st h c n = (o_iload 1 0) r (mx_G r (t_Mo_odd zz)) 10 ls st h c n := mx_G_eq (tm_Mo_odd zz) r 10 ls st h c n
theorem st_Mo_odd_11 (zz : Nat × Nat) (r : mx_T) (ls : mx_L) (st : List Value) (h : mx_H) (c n : Nat) : mx_G r (t_Mo_odd zz) 11 ls st h c n = (o_iload 1 3) r (mx_G r (t_Mo_odd zz)) 11 ls st h c n := mx_G_eq (tm_Mo_odd zz) r 11 ls st h c n
theorem st_Mo_odd_12 (zz : Nat × Nat) (r : mx_T) (ls : mx_L) (st : List Value) (h : mx_H) (c n : Nat) : mx_G r (t_Mo_odd zz) 12 ls st h c n = (o_ii (fun x y => x >>> (y &&& 31))) r (mx_G r (t_Mo_odd zz)) 12 ls st h c n := mx_G_eq (tm_Mo_odd zz) r 12 ls st h c n
theorem st_Mo_odd_13 (zz : Nat × Nat) (r : mx_T) (ls : mx_L) (st : List Value) (h : mx_H) (c n : Nat) : mx_G r (t_Mo_odd zz) 13 ls st h c n = (o_iload 1 1) r (mx_G r (t_Mo_odd zz)) 13 ls st h c n := mx_G_eq (tm_Mo_odd zz) r 13 ls st h c n
theorem st_Mo_odd_14 (zz : Nat × Nat) (r : mx_T) (ls : mx_L) (st : List Value) (h : mx_H) (c n : Nat) : mx_G r (t_Mo_odd zz) 14 ls st h c n = (o_iload 1 3) r (mx_G r (t_Mo_odd zz)) 14 ls st h c n := mx_G_eq (tm_Mo_odd zz) r 14 ls st h c n
theorem st_Mo_odd_15 (zz : Nat × Nat) (r : mx_T) (ls : mx_L) (st : List Value) (h : mx_H) (c n : Nat) : mx_G r (t_Mo_odd zz) 15 ls st h c n = (o_ii (fun x y => x >>> (y &&& 31))) r (mx_G r (t_Mo_odd zz)) 15 ls st h c n := mx_G_eq (tm_Mo_odd zz) r 15 ls st h c n
theorem st_Mo_odd_16 (zz : Nat × Nat) (r : mx_T) (ls : mx_L) (st : List Value) (h : mx_H) (c n : Nat) : mx_G r (t_Mo_odd zz) 16 ls st h c n = (o_ii (fun x y => x &&& y)) r (mx_G r (t_Mo_odd zz)) 16 ls st h c n := mx_G_eq (tm_Mo_odd zz) r 16 ls st h c n
theorem st_Mo_odd_17 (zz : Nat × Nat) (r : mx_T) (ls : mx_L) (st : List Value) (h : mx_H) (c n : Nat) : mx_G r (t_Mo_odd zz) 17 ls st h c n = (o_push 1 (.int 1)) r (mx_G r (t_Mo_odd zz)) 17 ls st h c n := mx_G_eq (tm_Mo_odd zz) r 17 ls st h c n
theorem st_Mo_odd_18 (zz : Nat × Nat) (r : mx_T) (ls : mx_L) (st : List Value) (h : mx_H) (c n : Nat) : mx_G r (t_Mo_odd zz) 18 ls st h c n = (o_ii (fun x y => x &&& y)) r (mx_G r (t_Mo_odd zz)) 18 ls st h c n := mx_G_eq (tm_Mo_odd zz) r 18 ls st h c n
theorem st_Mo_odd_19 (zz : Nat × Nat) (r : mx_T) (ls : mx_L) (st : List Value) (h : mx_H) (c n : Nat) : mx_G r (t_Mo_odd zz) 19 ls st h c n = (o_push 1 (.int 1)) r (mx_G r (t_Mo_odd zz)) 19 ls st h c n := mx_G_eq (tm_Mo_odd zz) r 19 ls st h c n
theorem st_Mo_odd_20 (zz : Nat × Nat) (r : mx_T) (ls : mx_L) (st : List Value) (h : mx_H) (c n : Nat) : mx_G r (t_Mo_odd zz) 20 ls st h c n = (o_icmp 29 (fun x y => ¬ x = y)) r (mx_G r (t_Mo_odd zz)) 20 ls st h c n := mx_G_eq (tm_Mo_odd zz) r 20 ls st h c n
theorem st_Mo_odd_23 (zz : Nat × Nat) (r : mx_T) (ls : mx_L) (st : List Value) (h : mx_H) (c n : Nat) : mx_G r (t_Mo_odd zz) 23 ls st h c n = (o_iload 1 2) r (mx_G r (t_Mo_odd zz)) 23 ls st h c n := mx_G_eq (tm_Mo_odd zz) r 23 ls st h c n
theorem st_Mo_odd_24 (zz : Nat × Nat) (r : mx_T) (ls : mx_L) (st : List Value) (h : mx_H) (c n : Nat) : mx_G r (t_Mo_odd zz) 24 ls st h c n = (o_push 1 (.int 1)) r (mx_G r (t_Mo_odd zz)) 24 ls st h c n := mx_G_eq (tm_Mo_odd zz) r 24 ls st h c n
theorem st_Mo_odd_25 (zz : Nat × Nat) (r : mx_T) (ls : mx_L) (st : List Value) (h : mx_H) (c n : Nat) : mx_G r (t_Mo_odd zz) 25 ls st h c n = (o_ii (fun x y => x + y)) r (mx_G r (t_Mo_odd zz)) 25 ls st h c n := mx_G_eq (tm_Mo_odd zz) r 25 ls st h c n
theorem st_Mo_odd_26 (zz : Nat × Nat) (r : mx_T) (ls : mx_L) (st : List Value) (h : mx_H) (c n : Nat) : mx_G r (t_Mo_odd zz) 26 ls st h c n = (o_goto 30) r (mx_G r (t_Mo_odd zz)) 26 ls st h c n := mx_G_eq (tm_Mo_odd zz) r 26 ls st h c n
theorem st_Mo_odd_29 (zz : Nat × Nat) (r : mx_T) (ls : mx_L) (st : List Value) (h : mx_H) (c n : Nat) : mx_G r (t_Mo_odd zz) 29 ls st h c n = (o_iload 1 2) r (mx_G r (t_Mo_odd zz)) 29 ls st h c n := mx_G_eq (tm_Mo_odd zz) r 29 ls st h c n
theorem st_Mo_odd_30 (zz : Nat × Nat) (r : mx_T) (ls : mx_L) (st : List Value) (h : mx_H) (c n : Nat) : mx_G r (t_Mo_odd zz) 30 ls st h c n = (o_istore 1 2) r (mx_G r (t_Mo_odd zz)) 30 ls st h c n := mx_G_eq (tm_Mo_odd zz) r 30 ls st h c n
theorem st_Mo_odd_31 (zz : Nat × Nat) (r : mx_T) (ls : mx_L) (st : List Value) (h : mx_H) (c n : Nat) : mx_G r (t_Mo_odd zz) 31 ls st h c n = (o_iinc 3 1) r (mx_G r (t_Mo_odd zz)) 31 ls st h c n := mx_G_eq (tm_Mo_odd zz) r 31 ls st h c n
theorem st_Mo_odd_34 (zz : Nat × Nat) (r : mx_T) (ls : mx_L) (st : List Value) (h : mx_H) (c n : Nat) : mx_G r (t_Mo_odd zz) 34 ls st h c n = (o_goto 4) r (mx_G r (t_Mo_odd zz)) 34 ls st h c n := mx_G_eq (tm_Mo_odd zz) r 34 ls st h c n
theorem st_Mo_odd_37 (zz : Nat × Nat) (r : mx_T) (ls : mx_L) (st : List Value) (h : mx_H) (c n : Nat) : mx_G r (t_Mo_odd zz) 37 ls st h c n = (o_iload 1 2) r (mx_G r (t_Mo_odd zz)) 37 ls st h c n := mx_G_eq (tm_Mo_odd zz) r 37 ls st h c n
theorem st_Mo_odd_38 (zz : Nat × Nat) (r : mx_T) (ls : mx_L) (st : List Value) (h : mx_H) (c n : Nat) : mx_G r (t_Mo_odd zz) 38 ls st h c n = (o_push 1 (.int 2)) r (mx_G r (t_Mo_odd zz)) 38 ls st h c n := mx_G_eq (tm_Mo_odd zz) r 38 ls st h c n
theorem st_Mo_odd_39 (zz : Nat × Nat) (r : mx_T) (ls : mx_L) (st : List Value) (h : mx_H) (c n : Nat) : mx_G r (t_Mo_odd zz) 39 ls st h c n = (o_iiz (fun x y => x - x / y * y)) r (mx_G r (t_Mo_odd zz)) 39 ls st h c n := mx_G_eq (tm_Mo_odd zz) r 39 ls st h c n
theorem st_Mo_odd_40 (zz : Nat × Nat) (r : mx_T) (ls : mx_L) (st : List Value) (h : mx_H) (c n : Nat) : mx_G r (t_Mo_odd zz) 40 ls st h c n = (o_iret) r (mx_G r (t_Mo_odd zz)) 40 ls st h c n := mx_G_eq (tm_Mo_odd zz) r 40 ls st h c n
theorem d_Mo_guarded_0 : decode c_Mo_guarded 0 = .ok (.iload_n 0, 1) := by decide +kernel
theorem d_Mo_guarded_1 : decode c_Mo_guarded 1 = .ok (.bipush 64, 2) := by decide +kernel
theorem d_Mo_guarded_3 : decode c_Mo_guarded 3 = .ok (.iload_n 0, 1) := by decide +kernel
theorem d_Mo_guarded_4 : decode c_Mo_guarded 4 = .ok (.bipush 23, 2) := by decide +kernel
theorem d_Mo_guarded_6 : decode c_Mo_guarded 6 = .ok (.invokestatic 139, 3) := by decide +kernel
theorem d_Mo_guarded_9 : decode c_Mo_guarded 9 = .ok (.imul, 1) := by decide +kernel
theorem d_Mo_guarded_10 : decode c_Mo_guarded 10 = .ok (.iadd, 1) := by decide +kernel
theorem d_Mo_guarded_11 : decode c_Mo_guarded 11 = .ok (.sipush 128, 3) := by decide +kernel
theorem d_Mo_guarded_14 : decode c_Mo_guarded 14 = .ok (.iconst 1, 1) := by decide +kernel
theorem d_Mo_guarded_15 : decode c_Mo_guarded 15 = .ok (.iload_n 0, 1) := by decide +kernel
theorem d_Mo_guarded_16 : decode c_Mo_guarded 16 = .ok (.bipush 58, 2) := by decide +kernel
theorem d_Mo_guarded_18 : decode c_Mo_guarded 18 = .ok (.invokestatic 139, 3) := by decide +kernel
theorem d_Mo_guarded_21 : decode c_Mo_guarded 21 = .ok (.isub, 1) := by decide +kernel
theorem d_Mo_guarded_22 : decode c_Mo_guarded 22 = .ok (.imul, 1) := by decide +kernel
theorem d_Mo_guarded_23 : decode c_Mo_guarded 23 = .ok (.iadd, 1) := by decide +kernel
theorem d_Mo_guarded_24 : decode c_Mo_guarded 24 = .ok (.ireturn, 1) := by decide +kernel
def t_Mo_guarded (zz : Nat × Nat) : List (Nat × mx_O) := [(0, o_iload 1 0),
  (1, o_push 2 (.int 64)),
  (3, o_iload 1 0),
  (4, o_push 2 (.int 23)),
  (6, o_call 0 0 2 0 0 (fun _ _ => True) (S_Mo_odd zz)),
  (9, o_ii (fun x y => x * y)),
  (10, o_ii (fun x y => x + y)),
  (11, o_push 3 (.int 128)),
  (14, o_push 1 (.int 1)),
  (15, o_iload 1 0),
  (16, o_push 2 (.int 58)),
  (18, o_call 0 0 2 0 0 (fun _ _ => True) (S_Mo_odd zz)),
  (21, o_ii (fun x y => x - y)),
  (22, o_ii (fun x y => x * y)),
  (23, o_ii (fun x y => x + y)),
  (24, o_iret)]
set_option maxRecDepth 100000 in
theorem tm_Mo_guarded (zz : Nat × Nat) : mx_All (fun _ o => mx_Mono o) (t_Mo_guarded zz) := by
  refine mx_all_cons (mo_st) ?_
  refine mx_all_cons (mo_st) ?_
  refine mx_all_cons (mo_st) ?_
  refine mx_all_cons (mo_st) ?_
  refine mx_all_cons (mo_call (sm_Mo_odd zz)) ?_
  refine mx_all_cons (mo_st) ?_
  refine mx_all_cons (mo_st) ?_
  refine mx_all_cons (mo_st) ?_
  refine mx_all_cons (mo_st) ?_
  refine mx_all_cons (mo_st) ?_
  refine mx_all_cons (mo_st) ?_
  refine mx_all_cons (mo_call (sm_Mo_odd zz)) ?_
  refine mx_all_cons (mo_st) ?_
  refine mx_all_cons (mo_st) ?_
  refine mx_all_cons (mo_st) ?_
  refine mx_all_cons (mo_ret) ?_
  exact mx_all_nil
def S_Mo_guarded (zz : Nat × Nat) : mx_Sp := mx_S 1 0 0 (t_Mo_guarded zz)
theorem sm_Mo_guarded (zz : Nat × Nat) : mx_SMono (S_Mo_guarded zz) := mx_S_mono (tm_Mo_guarded zz)
abbrev rm_Mo_guarded : Room := { frames := 1, cells := 0, slots := 0, locals := 23 }
set_option maxHeartbeats 4000000 in
set_option maxRecDepth 100000 in
theorem m_Mo_guarded (l : Launch) (zz : Nat × Nat) : mx_Met l y_Mo_guarded (wsOf y_Mo_guarded c_Mo_guarded 1 (some .int)) rm_Mo_guarded wcl (mx_Z zz) 0 0 (S_Mo_guarded zz) := by
  refine mx_met (cc := c_Mo_guarded) (ret := (some .int)) (by decide) rfl ?_
  intro p e s m args below meth c D A Post X hz hr hlk hnm
  have hm : ∀ w ∈ mw, w.before args s = true := fun w h => X.1.2.2.2.2 w (List.mem_cons_of_mem _ h)
  refine mx_all_cons (ok_iload (fun hl kk => lv_iload_n X.1.1 X.1.2.1 d_Mo_guarded_0 rfl hl kk)) ?_
  refine mx_all_cons (ok_push (fun kk => lv_bipush X.1.1 X.1.2.1 d_Mo_guarded_1 (by decide) kk)) ?_
  refine mx_all_cons (ok_iload (fun hl kk => lv_iload_n X.1.1 X.1.2.1 d_Mo_guarded_3 rfl hl kk)) ?_
  refine mx_all_cons (ok_push (fun kk => lv_bipush X.1.1 X.1.2.1 d_Mo_guarded_4 (by decide) kk)) ?_
  refine mx_all_cons (ok_callS X (mx_Zok_Z zz) hz ⟨(Nat.le_of_ble_eq_true rfl), (Nat.le_of_ble_eq_true rfl)⟩ (m_Mo_odd l zz) ⟨mx_cwB 2 hm w894 w892 w40 rfl rfl (by decide +kernel) ⟨(Nat.le_of_ble_eq_true rfl), (Nat.le_of_ble_eq_true rfl)⟩, (hm _ w893)⟩ d_Mo_guarded_6) ?_
  refine mx_all_cons (ok_ii (fun kk => lv_imul X.1.1 X.1.2.1 d_Mo_guarded_9 kk)) ?_
  refine mx_all_cons (ok_ii (fun kk => lv_iadd X.1.1 X.1.2.1 d_Mo_guarded_10 kk)) ?_
  refine mx_all_cons (ok_push (fun kk => lv_sipush X.1.1 X.1.2.1 d_Mo_guarded_11 (by decide) kk)) ?_
  refine mx_all_cons (ok_push (fun kk => lv_iconst X.1.1 X.1.2.1 d_Mo_guarded_14 (by decide) kk)) ?_
  refine mx_all_cons (ok_iload (fun hl kk => lv_iload_n X.1.1 X.1.2.1 d_Mo_guarded_15 rfl hl kk)) ?_
  refine mx_all_cons (ok_push (fun kk => lv_bipush X.1.1 X.1.2.1 d_Mo_guarded_16 (by decide) kk)) ?_
  refine mx_all_cons (ok_callS X (mx_Zok_Z zz) hz ⟨(Nat.le_of_ble_eq_true rfl), (Nat.le_of_ble_eq_true rfl)⟩ (m_Mo_odd l zz) ⟨mx_cwB 2 hm w894 w892 w40 rfl rfl (by decide +kernel) ⟨(Nat.le_of_ble_eq_true rfl), (Nat.le_of_ble_eq_true rfl)⟩, (hm _ w893)⟩ d_Mo_guarded_18) ?_
  refine mx_all_cons (ok_ii (fun kk => lv_isub X.1.1 X.1.2.1 d_Mo_guarded_21 kk)) ?_
  refine mx_all_cons (ok_ii (fun kk => lv_imul X.1.1 X.1.2.1 d_Mo_guarded_22 kk)) ?_
  refine mx_all_cons (ok_ii (fun kk => lv_iadd X.1.1 X.1.2.1 d_Mo_guarded_23 kk)) ?_
  refine mx_all_cons (ok_iret X hr hlk d_Mo_guarded_24) ?_
  exact mx_all_nil
theorem st_Mo_guarded_0 (zz : Nat × Nat) (r : mx_T) (ls : mx_L) (st : List Value) (h : mx_H) (c n : Nat) : mx_G r (t_Mo_guarded zz) 0 ls st h c n = (o_iload 1 0) r (mx_G r (t_Mo_guarded zz)) 0 ls st h c n := mx_G_eq (tm_Mo_guarded zz) r 0 ls st h c n
theorem st_Mo_guarded_1 (zz : Nat × Nat) (r : mx_T) (ls : mx_L) (st : List Value) (h : mx_H) (c n : Nat) : mx_G r (t_Mo_guarded zz) 1 ls st h c n = (o_push 2 (.int 64)) r (mx_G r (t_Mo_guarded zz)) 1 ls st h c n := mx_G_eq (tm_Mo_guarded zz) r 1 ls st h c n
theorem st_Mo_guarded_3 (zz : Nat × Nat) (r : mx_T) (ls : mx_L) (st : List Value) (h : mx_H) (c n : Nat) : mx_G r (t_Mo_guarded zz) 3 ls st h c n = (o_iload 1 0) r (mx_G r (t_Mo_guarded zz)) 3 ls st h c n := mx_G_eq (tm_Mo_guarded zz) r 3 ls st h c n
theorem st_Mo_guarded_4 (zz : Nat × Nat) (r : mx_T) (ls : mx_L) (st : List Value) (h : mx_H) (c n : Nat) : mx_G r (t_Mo_guarded zz) 4 ls st h c n = (o_push 2 (.int 23)) r (mx_G r (t_Mo_guarded zz)) 4 ls st h c n := mx_G_eq (tm_Mo_guarded zz) r 4 ls st h c n
theorem st_Mo_guarded_6 (zz : Nat × Nat) (r : mx_T) (ls : mx_L) (st : List Value) (h : mx_H) (c n : Nat) : mx_G r (t_Mo_guarded zz) 6 ls st h c n = (o_call 0 0 2 0 0 (fun _ _ => True) (S_Mo_odd zz)) r (mx_G r (t_Mo_guarded zz)) 6 ls st h c n := mx_G_eq (tm_Mo_guarded zz) r 6 ls st h c n
theorem st_Mo_guarded_9 (zz : Nat × Nat) (r : mx_T) (ls : mx_L) (st : List Value) (h : mx_H) (c n : Nat) : mx_G r (t_Mo_guarded zz) 9 ls st h c n = (o_ii (fun x y => x * y)) r (mx_G r (t_Mo_guarded zz)) 9 ls st h c n := mx_G_eq (tm_Mo_guarded zz) r 9 ls st h c n
theorem st_Mo_guarded_10 (zz : Nat × Nat) (r : mx_T) (ls : mx_L) (st : List Value) (h : mx_H) (c n : Nat) : mx_G r (t_Mo_guarded zz) 10 ls st h c n = (o_ii (fun x y => x + y)) r (mx_G r (t_Mo_guarded zz)) 10 ls st h c n := mx_G_eq (tm_Mo_guarded zz) r 10 ls st h c n
theorem st_Mo_guarded_11 (zz : Nat × Nat) (r : mx_T) (ls : mx_L) (st : List Value) (h : mx_H) (c n : Nat) : mx_G r (t_Mo_guarded zz) 11 ls st h c n = (o_push 3 (.int 128)) r (mx_G r (t_Mo_guarded zz)) 11 ls st h c n := mx_G_eq (tm_Mo_guarded zz) r 11 ls st h c n
theorem st_Mo_guarded_14 (zz : Nat × Nat) (r : mx_T) (ls : mx_L) (st : List Value) (h : mx_H) (c n : Nat) : mx_G r (t_Mo_guarded zz) 14 ls st h c n = (o_push 1 (.int 1)) r (mx_G r (t_Mo_guarded zz)) 14 ls st h c n := mx_G_eq (tm_Mo_guarded zz) r 14 ls st h c n
theorem st_Mo_guarded_15 (zz : Nat × Nat) (r : mx_T) (ls : mx_L) (st : List Value) (h : mx_H) (c n : Nat) : mx_G r (t_Mo_guarded zz) 15 ls st h c n = (o_iload 1 0) r (mx_G r (t_Mo_guarded zz)) 15 ls st h c n := mx_G_eq (tm_Mo_guarded zz) r 15 ls st h c n
theorem st_Mo_guarded_16 (zz : Nat × Nat) (r : mx_T) (ls : mx_L) (st : List Value) (h : mx_H) (c n : Nat) : mx_G r (t_Mo_guarded zz) 16 ls st h c n = (o_push 2 (.int 58)) r (mx_G r (t_Mo_guarded zz)) 16 ls st h c n := mx_G_eq (tm_Mo_guarded zz) r 16 ls st h c n
theorem st_Mo_guarded_18 (zz : Nat × Nat) (r : mx_T) (ls : mx_L) (st : List Value) (h : mx_H) (c n : Nat) : mx_G r (t_Mo_guarded zz) 18 ls st h c n = (o_call 0 0 2 0 0 (fun _ _ => True) (S_Mo_odd zz)) r (mx_G r (t_Mo_guarded zz)) 18 ls st h c n := mx_G_eq (tm_Mo_guarded zz) r 18 ls st h c n
theorem st_Mo_guarded_21 (zz : Nat × Nat) (r : mx_T) (ls : mx_L) (st : List Value) (h : mx_H) (c n : Nat) : mx_G r (t_Mo_guarded zz) 21 ls st h c n = (o_ii (fun x y => x - y)) r (mx_G r (t_Mo_guarded zz)) 21 ls st h c n := mx_G_eq (tm_Mo_guarded zz) r 21 ls st h c n
theorem st_Mo_guarded_22 (zz : Nat × Nat) (r : mx_T) (ls : mx_L) (st : List Value) (h : mx_H) (c n : Nat) : mx_G r (t_Mo_guarded zz) 22 ls st h c n = (o_ii (fun x y => x * y)) r (mx_G r (t_Mo_guarded zz)) 22 ls st h c n := mx_G_eq (tm_Mo_guarded zz) r 22 ls st h c n
theorem st_Mo_guarded_23 (zz : Nat × Nat) (r : mx_T) (ls : mx_L) (st : List Value) (h : mx_H) (c n : Nat) : mx_G r (t_Mo_guarded zz) 23 ls st h c n = (o_ii (fun x y => x + y)) r (mx_G r (t_Mo_guarded zz)) 23 ls st h c n := mx_G_eq (tm_Mo_guarded zz) r 23 ls st h c n
theorem st_Mo_guarded_24 (zz : Nat × Nat) (r : mx_T) (ls : mx_L) (st : List Value) (h : mx_H) (c n : Nat) : mx_G r (t_Mo_guarded zz) 24 ls st h c n = (o_iret) r (mx_G r (t_Mo_guarded zz)) 24 ls st h c n := mx_G_eq (tm_Mo_guarded zz) r 24 ls st h c n
theorem d_Mo_dataByte_0 : decode c_Mo_dataByte 0 = .ok (.iload_n 2, 1) := by decide +kernel
theorem d_Mo_dataByte_1 : decode c_Mo_dataByte 1 = .ok (.ifCond .ne 22, 3) := by decide +kernel
theorem d_Mo_dataByte_4 : decode c_Mo_dataByte 4 = .ok (.aload_n 0, 1) := by decide +kernel
theorem d_Mo_dataByte_5 : decode c_Mo_dataByte 5 = .ok (.getfield 26, 3) := by decide +kernel
theorem d_Mo_dataByte_8 : decode c_Mo_dataByte 8 = .ok (.iload_n 1, 1) := by decide +kernel
theorem d_Mo_dataByte_9 : decode c_Mo_dataByte 9 = .ok (.iaload, 1) := by decide +kernel
theorem d_Mo_dataByte_10 : decode c_Mo_dataByte 10 = .ok (.ifCond .le 13, 3) := by decide +kernel
theorem d_Mo_dataByte_13 : decode c_Mo_dataByte 13 = .ok (.aload_n 0, 1) := by decide +kernel
theorem d_Mo_dataByte_14 : decode c_Mo_dataByte 14 = .ok (.getfield 7, 3) := by decide +kernel
theorem d_Mo_dataByte_17 : decode c_Mo_dataByte 17 = .ok (.iload_n 1, 1) := by decide +kernel
theorem d_Mo_dataByte_18 : decode c_Mo_dataByte 18 = .ok (.iaload, 1) := by decide +kernel
theorem d_Mo_dataByte_19 : decode c_Mo_dataByte 19 = .ok (.invokestatic 143, 3) := by decide +kernel
theorem d_Mo_dataByte_22 : decode c_Mo_dataByte 22 = .ok (.ireturn, 1) := by decide +kernel
theorem d_Mo_dataByte_23 : decode c_Mo_dataByte 23 = .ok (.sipush 255, 3) := by decide +kernel
theorem d_Mo_dataByte_26 : decode c_Mo_dataByte 26 = .ok (.istore_n 3, 1) := by decide +kernel
theorem d_Mo_dataByte_27 : decode c_Mo_dataByte 27 = .ok (.iconst 0, 1) := by decide +kernel
theorem d_Mo_dataByte_28 : decode c_Mo_dataByte 28 = .ok (.istore 4, 2) := by decide +kernel
theorem d_Mo_dataByte_30 : decode c_Mo_dataByte 30 = .ok (.iload 4, 2) := by decide +kernel
theorem d_Mo_dataByte_32 : decode c_Mo_dataByte 32 = .ok (.aload_n 0, 1) := by decide +kernel
theorem d_Mo_dataByte_33 : decode c_Mo_dataByte 33 = .ok (.getfield 99, 3) := by decide +kernel
theorem d_Mo_dataByte_36 : decode c_Mo_dataByte 36 = .ok (.if_icmp .ge 87, 3) := by decide +kernel
theorem d_Mo_dataByte_39 : decode c_Mo_dataByte 39 = .ok (.iconst 0, 1) := by decide +kernel
theorem d_Mo_dataByte_40 : decode c_Mo_dataByte 40 = .ok (.istore 5, 2) := by decide +kernel
theorem d_Mo_dataByte_42 : decode c_Mo_dataByte 42 = .ok (.iload 5, 2) := by decide +kernel
theorem d_Mo_dataByte_44 : decode c_Mo_dataByte 44 = .ok (.aload_n 0, 1) := by decide +kernel
theorem d_Mo_dataByte_45 : decode c_Mo_dataByte 45 = .ok (.getfield 35, 3) := by decide +kernel
theorem d_Mo_dataByte_48 : decode c_Mo_dataByte 48 = .ok (.iload 4, 2) := by decide +kernel
theorem d_Mo_dataByte_50 : decode c_Mo_dataByte 50 = .ok (.iaload, 1) := by decide +kernel
theorem d_Mo_dataByte_51 : decode c_Mo_dataByte 51 = .ok (.if_icmp .ge 66, 3) := by decide +kernel
theorem d_Mo_dataByte_54 : decode c_Mo_dataByte 54 = .ok (.aload_n 0, 1) := by decide +kernel
theorem d_Mo_dataByte_55 : decode c_Mo_dataByte 55 = .ok (.getfield 29, 3) := by decide +kernel
theorem d_Mo_dataByte_58 : decode c_Mo_dataByte 58 = .ok (.iload 4, 2) := by decide +kernel
theorem d_Mo_dataByte_60 : decode c_Mo_dataByte 60 = .ok (.iaload, 1) := by decide +kernel
theorem d_Mo_dataByte_61 : decode c_Mo_dataByte 61 = .ok (.iload_n 1, 1) := by decide +kernel
theorem d_Mo_dataByte_62 : decode c_Mo_dataByte 62 = .ok (.if_icmp .ne 55, 3) := by decide +kernel
theorem d_Mo_dataByte_65 : decode c_Mo_dataByte 65 = .ok (.aload_n 0, 1) := by decide +kernel
theorem d_Mo_dataByte_66 : decode c_Mo_dataByte 66 = .ok (.getfield 32, 3) := by decide +kernel
theorem d_Mo_dataByte_69 : decode c_Mo_dataByte 69 = .ok (.iload 4, 2) := by decide +kernel
theorem d_Mo_dataByte_71 : decode c_Mo_dataByte 71 = .ok (.iaload, 1) := by decide +kernel
theorem d_Mo_dataByte_72 : decode c_Mo_dataByte 72 = .ok (.iload 5, 2) := by decide +kernel
theorem d_Mo_dataByte_74 : decode c_Mo_dataByte 74 = .ok (.iadd, 1) := by decide +kernel
theorem d_Mo_dataByte_75 : decode c_Mo_dataByte 75 = .ok (.istore 6, 2) := by decide +kernel
theorem d_Mo_dataByte_77 : decode c_Mo_dataByte 77 = .ok (.iload 6, 2) := by decide +kernel
theorem d_Mo_dataByte_79 : decode c_Mo_dataByte 79 = .ok (.bipush 8, 2) := by decide +kernel
theorem d_Mo_dataByte_81 : decode c_Mo_dataByte 81 = .ok (.idiv, 1) := by decide +kernel
theorem d_Mo_dataByte_82 : decode c_Mo_dataByte 82 = .ok (.iload_n 2, 1) := by decide +kernel
theorem d_Mo_dataByte_83 : decode c_Mo_dataByte 83 = .ok (.if_icmp .ne 28, 3) := by decide +kernel
theorem d_Mo_dataByte_86 : decode c_Mo_dataByte 86 = .ok (.aload_n 0, 1) := by decide +kernel
theorem d_Mo_dataByte_87 : decode c_Mo_dataByte 87 = .ok (.getfield 38, 3) := by decide +kernel
theorem d_Mo_dataByte_90 : decode c_Mo_dataByte 90 = .ok (.iload 4, 2) := by decide +kernel
theorem d_Mo_dataByte_92 : decode c_Mo_dataByte 92 = .ok (.iaload, 1) := by decide +kernel
theorem d_Mo_dataByte_93 : decode c_Mo_dataByte 93 = .ok (.iload 5, 2) := by decide +kernel
theorem d_Mo_dataByte_95 : decode c_Mo_dataByte 95 = .ok (.ishr, 1) := by decide +kernel
theorem d_Mo_dataByte_96 : decode c_Mo_dataByte 96 = .ok (.iconst 1, 1) := by decide +kernel
theorem d_Mo_dataByte_97 : decode c_Mo_dataByte 97 = .ok (.iand, 1) := by decide +kernel
theorem d_Mo_dataByte_98 : decode c_Mo_dataByte 98 = .ok (.ifCond .ne 13, 3) := by decide +kernel
theorem d_Mo_dataByte_101 : decode c_Mo_dataByte 101 = .ok (.iload_n 3, 1) := by decide +kernel
theorem d_Mo_dataByte_102 : decode c_Mo_dataByte 102 = .ok (.iconst 1, 1) := by decide +kernel
theorem d_Mo_dataByte_103 : decode c_Mo_dataByte 103 = .ok (.iload 6, 2) := by decide +kernel
theorem d_Mo_dataByte_105 : decode c_Mo_dataByte 105 = .ok (.bipush 8, 2) := by decide +kernel
theorem d_Mo_dataByte_107 : decode c_Mo_dataByte 107 = .ok (.irem, 1) := by decide +kernel
theorem d_Mo_dataByte_108 : decode c_Mo_dataByte 108 = .ok (.ishl, 1) := by decide +kernel
theorem d_Mo_dataByte_109 : decode c_Mo_dataByte 109 = .ok (.isub, 1) := by decide +kernel
theorem d_Mo_dataByte_110 : decode c_Mo_dataByte 110 = .ok (.istore_n 3, 1) := by decide +kernel
theorem d_Mo_dataByte_111 : decode c_Mo_dataByte 111 = .ok (.iinc 5 1, 3) := by decide +kernel
theorem d_Mo_dataByte_114 : decode c_Mo_dataByte 114 = .ok (.goto (-72), 3) := by decide +kernel
theorem d_Mo_dataByte_117 : decode c_Mo_dataByte 117 = .ok (.iinc 4 1, 3) := by decide +kernel
theorem d_Mo_dataByte_120 : decode c_Mo_dataByte 120 = .ok (.goto (-90), 3) := by decide +kernel
theorem d_Mo_dataByte_123 : decode c_Mo_dataByte 123 = .ok (.iload_n 3, 1) := by decide +kernel
theorem d_Mo_dataByte_124 : decode c_Mo_dataByte 124 = .ok (.ireturn, 1) := by decide +kernel
def t_Mo_dataByte (zz : Nat × Nat) : List (Nat × mx_O) := [(0, o_iload 1 2),
  (1, o_if 23 (fun x => ¬ x = 0)),
  (4, o_aload 1 0),
  (5, o_get 10 6),
  (8, o_iload 1 1),
  (9, o_iald .int),
  (10, o_if 23 (fun x => x ≤ 0)),
  (13, o_aload 1 0),
  (14, o_get 10 1),
  (17, o_iload 1 1),
  (18, o_iald .int),
  (19, o_call 0 0 1 0 0 (fun _ _ => True) (S_Mo_guarded zz)),
  (22, o_iret),
  (23, o_push 3 (.int 255)),
  (26, o_istore 1 3),
  (27, o_push 1 (.int 0)),
  (28, o_istore 2 4),
  (30, o_iload 2 4),
  (32, o_aload 1 0),
  (33, o_get 10 7),
  (36, o_icmp 123 (fun x y => y ≤ x)),
  (39, o_push 1 (.int 0)),
  (40, o_istore 2 5),
  (42, o_iload 2 5),
  (44, o_aload 1 0),
  (45, o_get 10 10),
  (48, o_iload 2 4),
  (50, o_iald .int),
  (51, o_icmp 117 (fun x y => y ≤ x)),
  (54, o_aload 1 0),
  (55, o_get 10 8),
  (58, o_iload 2 4),
  (60, o_iald .int),
  (61, o_iload 1 1),
  (62, o_icmp 117 (fun x y => ¬ x = y)),
  (65, o_aload 1 0),
  (66, o_get 10 9),
  (69, o_iload 2 4),
  (71, o_iald .int),
  (72, o_iload 2 5),
  (74, o_ii (fun x y => x + y)),
  (75, o_istore 2 6),
  (77, o_iload 2 6),
  (79, o_push 2 (.int 8)),
  (81, o_iiz (fun x y => x / y)),
  (82, o_iload 1 2),
  (83, o_icmp 111 (fun x y => ¬ x = y)),
  (86, o_aload 1 0),
  (87, o_get 10 11),
  (90, o_iload 2 4),
  (92, o_iald .int),
  (93, o_iload 2 5),
  (95, o_ii (fun x y => x >>> (y &&& 31))),
  (96, o_push 1 (.int 1)),
  (97, o_ii (fun x y => x &&& y)),
  (98, o_if 111 (fun x => ¬ x = 0)),
  (101, o_iload 1 3),
  (102, o_push 1 (.int 1)),
  (103, o_iload 2 6),
  (105, o_push 2 (.int 8)),
  (107, o_iiz (fun x y => x - x / y * y)),
  (108, o_ii (fun x y => x <<< (y &&& 31))),
  (109, o_ii (fun x y => x - y)),
  (110, o_istore 1 3),
  (111, o_iinc 5 1),
  (114, o_goto 42),
  (117, o_iinc 4 1),
  (120, o_goto 30),
  (123, o_iload 1 3),
  (124, o_iret)]
set_option maxRecDepth 100000 in
theorem tm_Mo_dataByte (zz : Nat × Nat) : mx_All (fun _ o => mx_Mono o) (t_Mo_dataByte zz) := by
  refine mx_all_cons (mo_st) ?_
  refine mx_all_cons (mo_br) ?_
  refine mx_all_cons (mo_st) ?_
  refine mx_all_cons (mo_st) ?_
  refine mx_all_cons (mo_st) ?_
  refine mx_all_cons (mo_sc) ?_
  refine mx_all_cons (mo_br) ?_
  refine mx_all_cons (mo_st) ?_
  refine mx_all_cons (mo_st) ?_
  refine mx_all_cons (mo_st) ?_
  refine mx_all_cons (mo_sc) ?_
  refine mx_all_cons (mo_call (sm_Mo_guarded zz)) ?_
  refine mx_all_cons (mo_ret) ?_
  refine mx_all_cons (mo_st) ?_
  refine mx_all_cons (mo_st) ?_
  refine mx_all_cons (mo_st) ?_
  refine mx_all_cons (mo_st) ?_
  refine mx_all_cons (mo_st) ?_
  refine mx_all_cons (mo_st) ?_
  refine mx_all_cons (mo_st) ?_
  refine mx_all_cons (mo_br) ?_
  refine mx_all_cons (mo_st) ?_
  refine mx_all_cons (mo_st) ?_
  refine mx_all_cons (mo_st) ?_
  refine mx_all_cons (mo_st) ?_
  refine mx_all_cons (mo_st) ?_
  refine mx_all_cons (mo_st) ?_
  refine mx_all_cons (mo_sc) ?_
  refine mx_all_cons (mo_br) ?_
  refine mx_all_cons (mo_st) ?_
  refine mx_all_cons (mo_st) ?_
  refine mx_all_cons (mo_st) ?_
  refine mx_all_cons (mo_sc) ?_
  refine mx_all_cons (mo_st) ?_
  refine mx_all_cons (mo_br) ?_
  refine mx_all_cons (mo_st) ?_
  refine mx_all_cons (mo_st) ?_
  refine mx_all_cons (mo_st) ?_
  refine mx_all_cons (mo_sc) ?_
  refine mx_all_cons (mo_st) ?_
  refine mx_all_cons (mo_st) ?_
  refine mx_all_cons (mo_st) ?_
  refine mx_all_cons (mo_st) ?_
  refine mx_all_cons (mo_st) ?_
  refine mx_all_cons (mo_sc) ?_
  refine mx_all_cons (mo_st) ?_
  refine mx_all_cons (mo_br) ?_
  refine mx_all_cons (mo_st) ?_
  refine mx_all_cons (mo_st) ?_
  refine mx_all_cons (mo_st) ?_
  refine mx_all_cons (mo_sc) ?_
  refine mx_all_cons (mo_st) ?_
  refine mx_all_cons (mo_st) ?_
  refine mx_all_cons (mo_st) ?_
  refine mx_all_cons (mo_st) ?_
  refine mx_all_cons (mo_br) ?_
  refine mx_all_cons (mo_st) ?_
  refine mx_all_cons (mo_st) ?_
  refine mx_all_cons (mo_st) ?_
  refine mx_all_cons (mo_st) ?_
  refine mx_all_cons (mo_sc) ?_
  refine mx_all_cons (mo_st) ?_
  refine mx_all_cons (mo_st) ?_
  refine mx_all_cons (mo_st) ?_
  refine mx_all_cons (mo_st) ?_
  refine mx_all_cons (mo_st) ?_
  refine mx_all_cons (mo_st) ?_
  refine mx_all_cons (mo_st) ?_
  refine mx_all_cons (mo_st) ?_
  refine mx_all_cons (mo_ret) ?_
  exact mx_all_nil
def S_Mo_dataByte (zz : Nat × Nat) : mx_Sp := mx_S 7 0 0 (t_Mo_dataByte zz)
theorem sm_Mo_dataByte (zz : Nat × Nat) : mx_SMono (S_Mo_dataByte zz) := mx_S_mono (tm_Mo_dataByte zz)
abbrev rm_Mo_dataByte : Room := { frames := 2, cells := 0, slots := 0, locals := 43 }
set_option maxHeartbeats 4000000 in
set_option maxRecDepth 100000 in
theorem m_Mo_dataByte (l : Launch) (zz : Nat × Nat) : mx_Met l y_Mo_dataByte (wsOf y_Mo_dataByte c_Mo_dataByte 7 (some .int)) rm_Mo_dataByte wcl (mx_Z zz) 0 0 (S_Mo_dataByte zz) := by
  refine mx_met (cc := c_Mo_dataByte) (ret := (some .int)) (by decide) rfl ?_
  intro p e s m args below meth c D A Post X hz hr hlk hnm
  have hm : ∀ w ∈ mw, w.before args s = true := fun w h => X.1.2.2.2.2 w (List.mem_cons_of_mem _ h)
  refine mx_all_cons (ok_iload (fun hl kk => lv_iload_n X.1.1 X.1.2.1 d_Mo_dataByte_0 rfl hl kk)) ?_
  refine mx_all_cons (ok_if (fun kt kf => lv_if_ne X.1.1 X.1.2.1 d_Mo_dataByte_1 (by decide) kt (fun z => kf (fun g => g z)))) ?_
  refine mx_all_cons (ok_aload (fun hl kk => lv_aload_n X.1.1 X.1.2.1 d_Mo_dataByte_4 rfl hl kk) (fun hl kk => lv_aload_nN X.1.1 X.1.2.1 d_Mo_dataByte_4 rfl hl kk)) ?_
  refine mx_all_cons (ok_get (C := "HeaderScheduleModel") (T := T_Mo) (N := 40) X (mw_up in_Mo) rfl 6 (by decide) (hm _ w683) (fun _ h9 => h9) d_Mo_dataByte_5) ?_
  refine mx_all_cons (ok_iload (fun hl kk => lv_iload_n X.1.1 X.1.2.1 d_Mo_dataByte_8 rfl hl kk)) ?_
  refine mx_all_cons (ok_iald X d_Mo_dataByte_9) ?_
  refine mx_all_cons (ok_if (fun kt kf => lv_if_le X.1.1 X.1.2.1 d_Mo_dataByte_10 (by decide) kt kf)) ?_
  refine mx_all_cons (ok_aload (fun hl kk => lv_aload_n X.1.1 X.1.2.1 d_Mo_dataByte_13 rfl hl kk) (fun hl kk => lv_aload_nN X.1.1 X.1.2.1 d_Mo_dataByte_13 rfl hl kk)) ?_
  refine mx_all_cons (ok_get (C := "HeaderScheduleModel") (T := T_Mo) (N := 40) X (mw_up in_Mo) rfl 1 (by decide) (hm _ w678) (fun _ h9 => h9) d_Mo_dataByte_14) ?_
  refine mx_all_cons (ok_iload (fun hl kk => lv_iload_n X.1.1 X.1.2.1 d_Mo_dataByte_17 rfl hl kk)) ?_
  refine mx_all_cons (ok_iald X d_Mo_dataByte_18) ?_
  refine mx_all_cons (ok_callS X (mx_Zok_Z zz) hz ⟨(Nat.le_of_ble_eq_true rfl), (Nat.le_of_ble_eq_true rfl)⟩ (m_Mo_guarded l zz) ⟨mx_cwB 1 hm w891 w889 w40 rfl rfl (by decide +kernel) ⟨(Nat.le_of_ble_eq_true rfl), (Nat.le_of_ble_eq_true rfl)⟩, (hm _ w890)⟩ d_Mo_dataByte_19) ?_
  refine mx_all_cons (ok_iret X hr hlk d_Mo_dataByte_22) ?_
  refine mx_all_cons (ok_push (fun kk => lv_sipush X.1.1 X.1.2.1 d_Mo_dataByte_23 (by decide) kk)) ?_
  refine mx_all_cons (ok_istore (fun hl kk => lv_istore_n X.1.1 X.1.2.1 d_Mo_dataByte_26 rfl hl (by decide) rfl kk)) ?_
  refine mx_all_cons (ok_push (fun kk => lv_iconst X.1.1 X.1.2.1 d_Mo_dataByte_27 (by decide) kk)) ?_
  refine mx_all_cons (ok_istore (fun hl kk => lv_istore X.1.1 X.1.2.1 d_Mo_dataByte_28 hl (by decide) rfl kk)) ?_
  refine mx_all_cons (ok_iload (fun hl kk => lv_iload X.1.1 X.1.2.1 d_Mo_dataByte_30 hl kk)) ?_
  refine mx_all_cons (ok_aload (fun hl kk => lv_aload_n X.1.1 X.1.2.1 d_Mo_dataByte_32 rfl hl kk) (fun hl kk => lv_aload_nN X.1.1 X.1.2.1 d_Mo_dataByte_32 rfl hl kk)) ?_
  refine mx_all_cons (ok_get (C := "HeaderScheduleModel") (T := T_Mo) (N := 40) X (mw_up in_Mo) rfl 7 (by decide) (hm _ w684) (fun _ h9 => h9) d_Mo_dataByte_33) ?_
  refine mx_all_cons (ok_icmp (fun kt kf => lv_icmp_ge X.1.1 X.1.2.1 d_Mo_dataByte_36 (by decide) kt kf)) ?_
  refine mx_all_cons (ok_push (fun kk => lv_iconst X.1.1 X.1.2.1 d_Mo_dataByte_39 (by decide) kk)) ?_
  refine mx_all_cons (ok_istore (fun hl kk => lv_istore X.1.1 X.1.2.1 d_Mo_dataByte_40 hl (by decide) rfl kk)) ?_
  refine mx_all_cons (ok_iload (fun hl kk => lv_iload X.1.1 X.1.2.1 d_Mo_dataByte_42 hl kk)) ?_
  refine mx_all_cons (ok_aload (fun hl kk => lv_aload_n X.1.1 X.1.2.1 d_Mo_dataByte_44 rfl hl kk) (fun hl kk => lv_aload_nN X.1.1 X.1.2.1 d_Mo_dataByte_44 rfl hl kk)) ?_
  refine mx_all_cons (ok_get (C := "HeaderScheduleModel") (T := T_Mo) (N := 40) X (mw_up in_Mo) rfl 10 (by decide) (hm _ w687) (fun _ h9 => h9) d_Mo_dataByte_45) ?_
  refine mx_all_cons (ok_iload (fun hl kk => lv_iload X.1.1 X.1.2.1 d_Mo_dataByte_48 hl kk)) ?_
  refine mx_all_cons (ok_iald X d_Mo_dataByte_50) ?_
  refine mx_all_cons (ok_icmp (fun kt kf => lv_icmp_ge X.1.1 X.1.2.1 d_Mo_dataByte_51 (by decide) kt kf)) ?_
  refine mx_all_cons (ok_aload (fun hl kk => lv_aload_n X.1.1 X.1.2.1 d_Mo_dataByte_54 rfl hl kk) (fun hl kk => lv_aload_nN X.1.1 X.1.2.1 d_Mo_dataByte_54 rfl hl kk)) ?_
  refine mx_all_cons (ok_get (C := "HeaderScheduleModel") (T := T_Mo) (N := 40) X (mw_up in_Mo) rfl 8 (by decide) (hm _ w685) (fun _ h9 => h9) d_Mo_dataByte_55) ?_
  refine mx_all_cons (ok_iload (fun hl kk => lv_iload X.1.1 X.1.2.1 d_Mo_dataByte_58 hl kk)) ?_
  refine mx_all_cons (ok_iald X d_Mo_dataByte_60) ?_
  refine mx_all_cons (ok_iload (fun hl kk => lv_iload_n X.1.1 X.1.2.1 d_Mo_dataByte_61 rfl hl kk)) ?_
  refine mx_all_cons (ok_icmp (fun kt kf => lv_icmp_ne X.1.1 X.1.2.1 d_Mo_dataByte_62 (by decide) kt (fun z => kf (fun g => g z)))) ?_
  refine mx_all_cons (ok_aload (fun hl kk => lv_aload_n X.1.1 X.1.2.1 d_Mo_dataByte_65 rfl hl kk) (fun hl kk => lv_aload_nN X.1.1 X.1.2.1 d_Mo_dataByte_65 rfl hl kk)) ?_
  refine mx_all_cons (ok_get (C := "HeaderScheduleModel") (T := T_Mo) (N := 40) X (mw_up in_Mo) rfl 9 (by decide) (hm _ w686) (fun _ h9 => h9) d_Mo_dataByte_66) ?_
  refine mx_all_cons (ok_iload (fun hl kk => lv_iload X.1.1 X.1.2.1 d_Mo_dataByte_69 hl kk)) ?_
  refine mx_all_cons (ok_iald X d_Mo_dataByte_71) ?_
  refine mx_all_cons (ok_iload (fun hl kk => lv_iload X.1.1 X.1.2.1 d_Mo_dataByte_72 hl kk)) ?_
  refine mx_all_cons (ok_ii (fun kk => lv_iadd X.1.1 X.1.2.1 d_Mo_dataByte_74 kk)) ?_
  refine mx_all_cons (ok_istore (fun hl kk => lv_istore X.1.1 X.1.2.1 d_Mo_dataByte_75 hl (by decide) rfl kk)) ?_
  refine mx_all_cons (ok_iload (fun hl kk => lv_iload X.1.1 X.1.2.1 d_Mo_dataByte_77 hl kk)) ?_
  refine mx_all_cons (ok_push (fun kk => lv_bipush X.1.1 X.1.2.1 d_Mo_dataByte_79 (by decide) kk)) ?_
  refine mx_all_cons (ok_iiz (fun hy kk => lv_idiv X.1.1 X.1.2.1 d_Mo_dataByte_81 hy kk)) ?_
  refine mx_all_cons (ok_iload (fun hl kk => lv_iload_n X.1.1 X.1.2.1 d_Mo_dataByte_82 rfl hl kk)) ?_
  refine mx_all_cons (ok_icmp (fun kt kf => lv_icmp_ne X.1.1 X.1.2.1 d_Mo_dataByte_83 (by decide) kt (fun z => kf (fun g => g z)))) ?_
  refine mx_all_cons (ok_aload (fun hl kk => lv_aload_n X.1.1 X.1.2.1 d_Mo_dataByte_86 rfl hl kk) (fun hl kk => lv_aload_nN X.1.1 X.1.2.1 d_Mo_dataByte_86 rfl hl kk)) ?_
  refine mx_all_cons (ok_get (C := "HeaderScheduleModel") (T := T_Mo) (N := 40) X (mw_up in_Mo) rfl 11 (by decide) (hm _ w688) (fun _ h9 => h9) d_Mo_dataByte_87) ?_
  refine mx_all_cons (ok_iload (fun hl kk => lv_iload X.1.1 X.1.2.1 d_Mo_dataByte_90 hl kk)) ?_
  refine mx_all_cons (ok_iald X d_Mo_dataByte_92) ?_
  refine mx_all_cons (ok_iload (fun hl kk => lv_iload X.1.1 X.1.2.1 d_Mo_dataByte_93 hl kk)) ?_
  refine mx_all_cons (ok_ii (fun kk => lv_ishr X.1.1 X.1.2.1 d_Mo_dataByte_95 kk)) ?_
  refine mx_all_cons (ok_push (fun kk => lv_iconst X.1.1 X.1.2.1 d_Mo_dataByte_96 (by decide) kk)) ?_
  refine mx_all_cons (ok_ii (fun kk => lv_iand X.1.1 X.1.2.1 d_Mo_dataByte_97 kk)) ?_
  refine mx_all_cons (ok_if (fun kt kf => lv_if_ne X.1.1 X.1.2.1 d_Mo_dataByte_98 (by decide) kt (fun z => kf (fun g => g z)))) ?_
  refine mx_all_cons (ok_iload (fun hl kk => lv_iload_n X.1.1 X.1.2.1 d_Mo_dataByte_101 rfl hl kk)) ?_
  refine mx_all_cons (ok_push (fun kk => lv_iconst X.1.1 X.1.2.1 d_Mo_dataByte_102 (by decide) kk)) ?_
  refine mx_all_cons (ok_iload (fun hl kk => lv_iload X.1.1 X.1.2.1 d_Mo_dataByte_103 hl kk)) ?_
  refine mx_all_cons (ok_push (fun kk => lv_bipush X.1.1 X.1.2.1 d_Mo_dataByte_105 (by decide) kk)) ?_
  refine mx_all_cons (ok_iiz (fun hy kk => lv_irem X.1.1 X.1.2.1 d_Mo_dataByte_107 hy kk)) ?_
  refine mx_all_cons (ok_ii (fun kk => lv_ishl X.1.1 X.1.2.1 d_Mo_dataByte_108 kk)) ?_
  refine mx_all_cons (ok_ii (fun kk => lv_isub X.1.1 X.1.2.1 d_Mo_dataByte_109 kk)) ?_
  refine mx_all_cons (ok_istore (fun hl kk => lv_istore_n X.1.1 X.1.2.1 d_Mo_dataByte_110 rfl hl (by decide) rfl kk)) ?_
  refine mx_all_cons (ok_iinc X (by decide) (by decide) d_Mo_dataByte_111) ?_
  refine mx_all_cons (ok_goto X d_Mo_dataByte_114 (by decide)) ?_
  refine mx_all_cons (ok_iinc X (by decide) (by decide) d_Mo_dataByte_117) ?_
  refine mx_all_cons (ok_goto X d_Mo_dataByte_120 (by decide)) ?_
  refine mx_all_cons (ok_iload (fun hl kk => lv_iload_n X.1.1 X.1.2.1 d_Mo_dataByte_123 rfl hl kk)) ?_
  refine mx_all_cons (ok_iret X hr hlk d_Mo_dataByte_124) ?_
  exact mx_all_nil
theorem st_Mo_dataByte_0 (zz : Nat × Nat) (r : mx_T) (ls : mx_L) (st : List Value) (h : mx_H) (c n : Nat) : mx_G r (t_Mo_dataByte zz) 0 ls st h c n = (o_iload 1 2) r (mx_G r (t_Mo_dataByte zz)) 0 ls st h c n := mx_G_eq (tm_Mo_dataByte zz) r 0 ls st h c n
theorem st_Mo_dataByte_1 (zz : Nat × Nat) (r : mx_T) (ls : mx_L) (st : List Value) (h : mx_H) (c n : Nat) : mx_G r (t_Mo_dataByte zz) 1 ls st h c n = (o_if 23 (fun x => ¬ x = 0)) r (mx_G r (t_Mo_dataByte zz)) 1 ls st h c n := mx_G_eq (tm_Mo_dataByte zz) r 1 ls st h c n
theorem st_Mo_dataByte_4 (zz : Nat × Nat) (r : mx_T) (ls : mx_L) (st : List Value) (h : mx_H) (c n : Nat) : mx_G r (t_Mo_dataByte zz) 4 ls st h c n = (o_aload 1 0) r (mx_G r (t_Mo_dataByte zz)) 4 ls st h c n := mx_G_eq (tm_Mo_dataByte zz) r 4 ls st h c n
theorem st_Mo_dataByte_5 (zz : Nat × Nat) (r : mx_T) (ls : mx_L) (st : List Value) (h : mx_H) (c n : Nat) : mx_G r (t_Mo_dataByte zz) 5 ls st h c n = (o_get 10 6) r (mx_G r (t_Mo_dataByte zz)) 5 ls st h c n := mx_G_eq (tm_Mo_dataByte zz) r 5 ls st h c n
theorem st_Mo_dataByte_8 (zz : Nat × Nat) (r : mx_T) (ls : mx_L) (st : List Value) (h : mx_H) (c n : Nat) : mx_G r (t_Mo_dataByte zz) 8 ls st h c n = (o_iload 1 1) r (mx_G r (t_Mo_dataByte zz)) 8 ls st h c n := mx_G_eq (tm_Mo_dataByte zz) r 8 ls st h c n
theorem st_Mo_dataByte_9 (zz : Nat × Nat) (r : mx_T) (ls : mx_L) (st : List Value) (h : mx_H) (c n : Nat) : mx_G r (t_Mo_dataByte zz) 9 ls st h c n = (o_iald .int) r (mx_G r (t_Mo_dataByte zz)) 9 ls st h c n := mx_G_eq (tm_Mo_dataByte zz) r 9 ls st h c n
theorem st_Mo_dataByte_10 (zz : Nat × Nat) (r : mx_T) (ls : mx_L) (st : List Value) (h : mx_H) (c n : Nat) : mx_G r (t_Mo_dataByte zz) 10 ls st h c n = (o_if 23 (fun x => x ≤ 0)) r (mx_G r (t_Mo_dataByte zz)) 10 ls st h c n := mx_G_eq (tm_Mo_dataByte zz) r 10 ls st h c n
theorem st_Mo_dataByte_13 (zz : Nat × Nat) (r : mx_T) (ls : mx_L) (st : List Value) (h : mx_H) (c n : Nat) : mx_G r (t_Mo_dataByte zz) 13 ls st h c n = (o_aload 1 0) r (mx_G r (t_Mo_dataByte zz)) 13 ls st h c n := mx_G_eq (tm_Mo_dataByte zz) r 13 ls st h c n
theorem st_Mo_dataByte_14 (zz : Nat × Nat) (r : mx_T) (ls : mx_L) (st : List Value) (h : mx_H) (c n : Nat) : mx_G r (t_Mo_dataByte zz) 14 ls st h c n = (o_get 10 1) r (mx_G r (t_Mo_dataByte zz)) 14 ls st h c n := mx_G_eq (tm_Mo_dataByte zz) r 14 ls st h c n
theorem st_Mo_dataByte_17 (zz : Nat × Nat) (r : mx_T) (ls : mx_L) (st : List Value) (h : mx_H) (c n : Nat) : mx_G r (t_Mo_dataByte zz) 17 ls st h c n = (o_iload 1 1) r (mx_G r (t_Mo_dataByte zz)) 17 ls st h c n := mx_G_eq (tm_Mo_dataByte zz) r 17 ls st h c n
theorem st_Mo_dataByte_18 (zz : Nat × Nat) (r : mx_T) (ls : mx_L) (st : List Value) (h : mx_H) (c n : Nat) : mx_G r (t_Mo_dataByte zz) 18 ls st h c n = (o_iald .int) r (mx_G r (t_Mo_dataByte zz)) 18 ls st h c n := mx_G_eq (tm_Mo_dataByte zz) r 18 ls st h c n
theorem st_Mo_dataByte_19 (zz : Nat × Nat) (r : mx_T) (ls : mx_L) (st : List Value) (h : mx_H) (c n : Nat) : mx_G r (t_Mo_dataByte zz) 19 ls st h c n = (o_call 0 0 1 0 0 (fun _ _ => True) (S_Mo_guarded zz)) r (mx_G r (t_Mo_dataByte zz)) 19 ls st h c n := mx_G_eq (tm_Mo_dataByte zz) r 19 ls st h c n
theorem st_Mo_dataByte_22 (zz : Nat × Nat) (r : mx_T) (ls : mx_L) (st : List Value) (h : mx_H) (c n : Nat) : mx_G r (t_Mo_dataByte zz) 22 ls st h c n = (o_iret) r (mx_G r (t_Mo_dataByte zz)) 22 ls st h c n := mx_G_eq (tm_Mo_dataByte zz) r 22 ls st h c n
theorem st_Mo_dataByte_23 (zz : Nat × Nat) (r : mx_T) (ls : mx_L) (st : List Value) (h : mx_H) (c n : Nat) : mx_G r (t_Mo_dataByte zz) 23 ls st h c n = (o_push 3 (.int 255)) r (mx_G r (t_Mo_dataByte zz)) 23 ls st h c n := mx_G_eq (tm_Mo_dataByte zz) r 23 ls st h c n
theorem st_Mo_dataByte_26 (zz : Nat × Nat) (r : mx_T) (ls : mx_L) (st : List Value) (h : mx_H) (c n : Nat) : mx_G r (t_Mo_dataByte zz) 26 ls st h c n = (o_istore 1 3) r (mx_G r (t_Mo_dataByte zz)) 26 ls st h c n := mx_G_eq (tm_Mo_dataByte zz) r 26 ls st h c n
theorem st_Mo_dataByte_27 (zz : Nat × Nat) (r : mx_T) (ls : mx_L) (st : List Value) (h : mx_H) (c n : Nat) : mx_G r (t_Mo_dataByte zz) 27 ls st h c n = (o_push 1 (.int 0)) r (mx_G r (t_Mo_dataByte zz)) 27 ls st h c n := mx_G_eq (tm_Mo_dataByte zz) r 27 ls st h c n
theorem st_Mo_dataByte_28 (zz : Nat × Nat) (r : mx_T) (ls : mx_L) (st : List Value) (h : mx_H) (c n : Nat) : mx_G r (t_Mo_dataByte zz) 28 ls st h c n = (o_istore 2 4) r (mx_G r (t_Mo_dataByte zz)) 28 ls st h c n := mx_G_eq (tm_Mo_dataByte zz) r 28 ls st h c n
theorem st_Mo_dataByte_30 (zz : Nat × Nat) (r : mx_T) (ls : mx_L) (st : List Value) (h : mx_H) (c n : Nat) : mx_G r (t_Mo_dataByte zz) 30 ls st h c n = (o_iload 2 4) r (mx_G r (t_Mo_dataByte zz)) 30 ls st h c n := mx_G_eq (tm_Mo_dataByte zz) r 30 ls st h c n
theorem st_Mo_dataByte_32 (zz : Nat × Nat) (r : mx_T) (ls : mx_L) (st : List Value) (h : mx_H) (c n : Nat) : mx_G r (t_Mo_dataByte zz) 32 ls st h c n = (o_aload 1 0) r (mx_G r (t_Mo_dataByte zz)) 32 ls st h c n := mx_G_eq (tm_Mo_dataByte zz) r 32 ls st h c n
theorem st_Mo_dataByte_33 (zz : Nat × Nat) (r : mx_T) (ls : mx_L) (st : List Value) (h : mx_H) (c n : Nat) : mx_G r (t_Mo_dataByte zz) 33 ls st h c n = (o_get 10 7) r (mx_G r (t_Mo_dataByte zz)) 33 ls st h c n := mx_G_eq (tm_Mo_dataByte zz) r 33 ls st h c n
theorem st_Mo_dataByte_36 (zz : Nat × Nat) (r : mx_T) (ls : mx_L) (st : List Value) (h : mx_H) (c n : Nat) : mx_G r (t_Mo_dataByte zz) 36 ls st h c n = (o_icmp 123 (fun x y => y ≤ x)) r (mx_G r (t_Mo_dataByte zz)) 36 ls st h c n := mx_G_eq (tm_Mo_dataByte zz) r 36 ls st h c n
theorem st_Mo_dataByte_39 (zz : Nat × Nat) (r : mx_T) (ls : mx_L) (st : List Value) (h : mx_H) (c n : Nat) : mx_G r (t_Mo_dataByte zz) 39 ls st h c n = (o_push 1 (.int 0)) r (mx_G r (t_Mo_dataByte zz)) 39 ls st h c n := mx_G_eq (tm_Mo_dataByte zz) r 39 ls st h c n
theorem st_Mo_dataByte_40 (zz : Nat × Nat) (r : mx_T) (ls : mx_L) (st : List Value) (h : mx_H) (c n : Nat) : mx_G r (t_Mo_dataByte zz) 40 ls st h c n = (o_istore 2 5) r (mx_G r (t_Mo_dataByte zz)) 40 ls st h c n := mx_G_eq (tm_Mo_dataByte zz) r 40 ls st h c n
theorem st_Mo_dataByte_42 (zz : Nat × Nat) (r : mx_T) (ls : mx_L) (st : List Value) (h : mx_H) (c n : Nat) : mx_G r (t_Mo_dataByte zz) 42 ls st h c n = (o_iload 2 5) r (mx_G r (t_Mo_dataByte zz)) 42 ls st h c n := mx_G_eq (tm_Mo_dataByte zz) r 42 ls st h c n
theorem st_Mo_dataByte_44 (zz : Nat × Nat) (r : mx_T) (ls : mx_L) (st : List Value) (h : mx_H) (c n : Nat) : mx_G r (t_Mo_dataByte zz) 44 ls st h c n = (o_aload 1 0) r (mx_G r (t_Mo_dataByte zz)) 44 ls st h c n := mx_G_eq (tm_Mo_dataByte zz) r 44 ls st h c n
theorem st_Mo_dataByte_45 (zz : Nat × Nat) (r : mx_T) (ls : mx_L) (st : List Value) (h : mx_H) (c n : Nat) : mx_G r (t_Mo_dataByte zz) 45 ls st h c n = (o_get 10 10) r (mx_G r (t_Mo_dataByte zz)) 45 ls st h c n := mx_G_eq (tm_Mo_dataByte zz) r 45 ls st h c n
theorem st_Mo_dataByte_48 (zz : Nat × Nat) (r : mx_T) (ls : mx_L) (st : List Value) (h : mx_H) (c n : Nat) : mx_G r (t_Mo_dataByte zz) 48 ls st h c n = (o_iload 2 4) r (mx_G r (t_Mo_dataByte zz)) 48 ls st h c n := mx_G_eq (tm_Mo_dataByte zz) r 48 ls st h c n
theorem st_Mo_dataByte_50 (zz : Nat × Nat) (r : mx_T) (ls : mx_L) (st : List Value) (h : mx_H) (c n : Nat) : mx_G r (t_Mo_dataByte zz) 50 ls st h c n = (o_iald .int) r (mx_G r (t_Mo_dataByte zz)) 50 ls st h c n := mx_G_eq (tm_Mo_dataByte zz) r 50 ls st h c n
theorem st_Mo_dataByte_51 (zz : Nat × Nat) (r : mx_T) (ls : mx_L) (st : List Value) (h : mx_H) (c n : Nat) : mx_G r (t_Mo_dataByte zz) 51 ls st h c n = (o_icmp 117 (fun x y => y ≤ x)) r (mx_G r (t_Mo_dataByte zz)) 51 ls st h c n := mx_G_eq (tm_Mo_dataByte zz) r 51 ls st h c n
theorem st_Mo_dataByte_54 (zz : Nat × Nat) (r : mx_T) (ls : mx_L) (st : List Value) (h : mx_H) (c n : Nat) : mx_G r (t_Mo_dataByte zz) 54 ls st h c n = (o_aload 1 0) r (mx_G r (t_Mo_dataByte zz)) 54 ls st h c n := mx_G_eq (tm_Mo_dataByte zz) r 54 ls st h c n
theorem st_Mo_dataByte_55 (zz : Nat × Nat) (r : mx_T) (ls : mx_L) (st : List Value) (h : mx_H) (c n : Nat) : mx_G r (t_Mo_dataByte zz) 55 ls st h c n = (o_get 10 8) r (mx_G r (t_Mo_dataByte zz)) 55 ls st h c n := mx_G_eq (tm_Mo_dataByte zz) r 55 ls st h c n
theorem st_Mo_dataByte_58 (zz : Nat × Nat) (r : mx_T) (ls : mx_L) (st : List Value) (h : mx_H) (c n : Nat) : mx_G r (t_Mo_dataByte zz) 58 ls st h c n = (o_iload 2 4) r (mx_G r (t_Mo_dataByte zz)) 58 ls st h c n := mx_G_eq (tm_Mo_dataByte zz) r 58 ls st h c n
theorem st_Mo_dataByte_60 (zz : Nat × Nat) (r : mx_T) (ls : mx_L) (st : List Value) (h : mx_H) (c n : Nat) : mx_G r (t_Mo_dataByte zz) 60 ls st h c n = (o_iald .int) r (mx_G r (t_Mo_dataByte zz)) 60 ls st h c n := mx_G_eq (tm_Mo_dataByte zz) r 60 ls st h c n
theorem st_Mo_dataByte_61 (zz : Nat × Nat) (r : mx_T) (ls : mx_L) (st : List Value) (h : mx_H) (c n : Nat) : mx_G r (t_Mo_dataByte zz) 61 ls st h c n = (o_iload 1 1) r (mx_G r (t_Mo_dataByte zz)) 61 ls st h c n := mx_G_eq (tm_Mo_dataByte zz) r 61 ls st h c n
theorem st_Mo_dataByte_62 (zz : Nat × Nat) (r : mx_T) (ls : mx_L) (st : List Value) (h : mx_H) (c n : Nat) : mx_G r (t_Mo_dataByte zz) 62 ls st h c n = (o_icmp 117 (fun x y => ¬ x = y)) r (mx_G r (t_Mo_dataByte zz)) 62 ls st h c n := mx_G_eq (tm_Mo_dataByte zz) r 62 ls st h c n
theorem st_Mo_dataByte_65 (zz : Nat × Nat) (r : mx_T) (ls : mx_L) (st : List Value) (h : mx_H) (c n : Nat) : mx_G r (t_Mo_dataByte zz) 65 ls st h c n = (o_aload 1 0) r (mx_G r (t_Mo_dataByte zz)) 65 ls st h c n := mx_G_eq (tm_Mo_dataByte zz) r 65 ls st h c n
theorem st_Mo_dataByte_66 (zz : Nat × Nat) (r : mx_T) (ls : mx_L) (st : List Value) (h : mx_H) (c n : Nat) : mx_G r (t_Mo_dataByte zz) 66 ls st h c n = (o_get 10 9) r (mx_G r (t_Mo_dataByte zz)) 66 ls st h c n := mx_G_eq (tm_Mo_dataByte zz) r 66 ls st h c n
theorem st_Mo_dataByte_69 (zz : Nat × Nat) (r : mx_T) (ls : mx_L) (st : List Value) (h : mx_H) (c n : Nat) : mx_G r (t_Mo_dataByte zz) 69 ls st h c n = (o_iload 2 4) r (mx_G r (t_Mo_dataByte zz)) 69 ls st h c n := mx_G_eq (tm_Mo_dataByte zz) r 69 ls st h c n
theorem st_Mo_dataByte_71 (zz : Nat × Nat) (r : mx_T) (ls : mx_L) (st : List Value) (h : mx_H) (c n : Nat) : mx_G r (t_Mo_dataByte zz) 71 ls st h c n = (o_iald .int) r (mx_G r (t_Mo_dataByte zz)) 71 ls st h c n := mx_G_eq (tm_Mo_dataByte zz) r 71 ls st h c n
theorem st_Mo_dataByte_72 (zz : Nat × Nat) (r : mx_T) (ls : mx_L) (st : List Value) (h : mx_H) (c n : Nat) : mx_G r (t_Mo_dataByte zz) 72 ls st h c n = (o_iload 2 5) r (mx_G r (t_Mo_dataByte zz)) 72 ls st h c n := mx_G_eq (tm_Mo_dataByte zz) r 72 ls st h c n
theorem st_Mo_dataByte_74 (zz : Nat × Nat) (r : mx_T) (ls : mx_L) (st : List Value) (h : mx_H) (c n : Nat) : mx_G r (t_Mo_dataByte zz) 74 ls st h c n = (o_ii (fun x y => x + y)) r (mx_G r (t_Mo_dataByte zz)) 74 ls st h c n := mx_G_eq (tm_Mo_dataByte zz) r 74 ls st h c n
theorem st_Mo_dataByte_75 (zz : Nat × Nat) (r : mx_T) (ls : mx_L) (st : List Value) (h : mx_H) (c n : Nat) : mx_G r (t_Mo_dataByte zz) 75 ls st h c n = (o_istore 2 6) r (mx_G r (t_Mo_dataByte zz)) 75 ls st h c n := mx_G_eq (tm_Mo_dataByte zz) r 75 ls st h c n
theorem st_Mo_dataByte_77 (zz : Nat × Nat) (r : mx_T) (ls : mx_L) (st : List Value) (h : mx_H) (c n : Nat) : mx_G r (t_Mo_dataByte zz) 77 ls st h c n = (o_iload 2 6) r (mx_G r (t_Mo_dataByte zz)) 77 ls st h c n := mx_G_eq (tm_Mo_dataByte zz) r 77 ls st h c n
theorem st_Mo_dataByte_79 (zz : Nat × Nat) (r : mx_T) (ls : mx_L) (st : List Value) (h : mx_H) (c n : Nat) : mx_G r (t_Mo_dataByte zz) 79 ls st h c n = (o_push 2 (.int 8)) r (mx_G r (t_Mo_dataByte zz)) 79 ls st h c n := mx_G_eq (tm_Mo_dataByte zz) r 79 ls st h c n
theorem st_Mo_dataByte_81 (zz : Nat × Nat) (r : mx_T) (ls : mx_L) (st : List Value) (h : mx_H) (c n : Nat) : mx_G r (t_Mo_dataByte zz) 81 ls st h c n = (o_iiz (fun x y => x / y)) r (mx_G r (t_Mo_dataByte zz)) 81 ls st h c n := mx_G_eq (tm_Mo_dataByte zz) r 81 ls st h c n
theorem st_Mo_dataByte_82 (zz : Nat × Nat) (r : mx_T) (ls : mx_L) (st : List Value) (h : mx_H) (c n : Nat) : mx_G r (t_Mo_dataByte zz) 82 ls st h c n = (o_iload 1 2) r (mx_G r (t_Mo_dataByte zz)) 82 ls st h c n := mx_G_eq (tm_Mo_dataByte zz) r 82 ls st h c n
theorem st_Mo_dataByte_83 (zz : Nat × Nat) (r : mx_T) (ls : mx_L) (st : List Value) (h : mx_H) (c n : Nat) : mx_G r (t_Mo_dataByte zz) 83 ls st h c n = (o_icmp 111 (fun x y => ¬ x = y)) r (mx_G r (t_Mo_dataByte zz)) 83 ls st h c n := mx_G_eq (tm_Mo_dataByte zz) r 83 ls st h c n
theorem st_Mo_dataByte_86 (zz : Nat × Nat) (r : mx_T) (ls : mx_L) (st : List Value) (h : mx_H) (c n : Nat) : mx_G r (t_Mo_dataByte zz) 86 ls st h c n = (o_aload 1 0) r (mx_G r (t_Mo_dataByte zz)) 86 ls st h c n := mx_G_eq (tm_Mo_dataByte zz) r 86 ls st h c n
theorem st_Mo_dataByte_87 (zz : Nat × Nat) (r : mx_T) (ls : mx_L) (st : List Value) (h : mx_H) (c n : Nat) : mx_G r (t_Mo_dataByte zz) 87 ls st h c n = (o_get 10 11) r (mx_G r (t_Mo_dataByte zz)) 87 ls st h c n := mx_G_eq (tm_Mo_dataByte zz) r 87 ls st h c n
theorem st_Mo_dataByte_90 (zz : Nat × Nat) (r : mx_T) (ls : mx_L) (st : List Value) (h : mx_H) (c n : Nat) : mx_G r (t_Mo_dataByte zz) 90 ls st h c n = (o_iload 2 4) r (mx_G r (t_Mo_dataByte zz)) 90 ls st h c n := mx_G_eq (tm_Mo_dataByte zz) r 90 ls st h c n
theorem st_Mo_dataByte_92 (zz : Nat × Nat) (r : mx_T) (ls : mx_L) (st : List Value) (h : mx_H) (c n : Nat) : mx_G r (t_Mo_dataByte zz) 92 ls st h c n = (o_iald .int) r (mx_G r (t_Mo_dataByte zz)) 92 ls st h c n := mx_G_eq (tm_Mo_dataByte zz) r 92 ls st h c n
theorem st_Mo_dataByte_93 (zz : Nat × Nat) (r : mx_T) (ls : mx_L) (st : List Value) (h : mx_H) (c n : Nat) : mx_G r (t_Mo_dataByte zz) 93 ls st h c n = (o_iload 2 5) r (mx_G r (t_Mo_dataByte zz)) 93 ls st h c n := mx_G_eq (tm_Mo_dataByte zz) r 93 ls st h c n
theorem st_Mo_dataByte_95 (zz : Nat × Nat) (r : mx_T) (ls : mx_L) (st : List Value) (h : mx_H) (c n : Nat) : mx_G r (t_Mo_dataByte zz) 95 ls st h c n = (o_ii (fun x y => x >>> (y &&& 31))) r (mx_G r (t_Mo_dataByte zz)) 95 ls st h c n := mx_G_eq (tm_Mo_dataByte zz) r 95 ls st h c n
theorem st_Mo_dataByte_96 (zz : Nat × Nat) (r : mx_T) (ls : mx_L) (st : List Value) (h : mx_H) (c n : Nat) : mx_G r (t_Mo_dataByte zz) 96 ls st h c n = (o_push 1 (.int 1)) r (mx_G r (t_Mo_dataByte zz)) 96 ls st h c n := mx_G_eq (tm_Mo_dataByte zz) r 96 ls st h c n
theorem st_Mo_dataByte_97 (zz : Nat × Nat) (r : mx_T) (ls : mx_L) (st : List Value) (h : mx_H) (c n : Nat) : mx_G r (t_Mo_dataByte zz) 97 ls st h c n = (o_ii (fun x y => x &&& y)) r (mx_G r (t_Mo_dataByte zz)) 97 ls st h c n := mx_G_eq (tm_Mo_dataByte zz) r 97 ls st h c n
theorem st_Mo_dataByte_98 (zz : Nat × Nat) (r : mx_T) (ls : mx_L) (st : List Value) (h : mx_H) (c n : Nat) : mx_G r (t_Mo_dataByte zz) 98 ls st h c n = (o_if 111 (fun x => ¬ x = 0)) r (mx_G r (t_Mo_dataByte zz)) 98 ls st h c n := mx_G_eq (tm_Mo_dataByte zz) r 98 ls st h c n
theorem st_Mo_dataByte_101 (zz : Nat × Nat) (r : mx_T) (ls : mx_L) (st : List Value) (h : mx_H) (c n : Nat) : mx_G r (t_Mo_dataByte zz) 101 ls st h c n = (o_iload 1 3) r (mx_G r (t_Mo_dataByte zz)) 101 ls st h c n := mx_G_eq (tm_Mo_dataByte zz) r 101 ls st h c n
theorem st_Mo_dataByte_102 (zz : Nat × Nat) (r : mx_T) (ls : mx_L) (st : List Value) (h : mx_H) (c n : Nat) : mx_G r (t_Mo_dataByte zz) 102 ls st h c n = (o_push 1 (.int 1)) r (mx_G r (t_Mo_dataByte zz)) 102 ls st h c n := mx_G_eq (tm_Mo_dataByte zz) r 102 ls st h c n
theorem st_Mo_dataByte_103 (zz : Nat × Nat) (r : mx_T) (ls : mx_L) (st : List Value) (h : mx_H) (c n : Nat) : mx_G r (t_Mo_dataByte zz) 103 ls st h c n = (o_iload 2 6) r (mx_G r (t_Mo_dataByte zz)) 103 ls st h c n := mx_G_eq (tm_Mo_dataByte zz) r 103 ls st h c n
theorem st_Mo_dataByte_105 (zz : Nat × Nat) (r : mx_T) (ls : mx_L) (st : List Value) (h : mx_H) (c n : Nat) : mx_G r (t_Mo_dataByte zz) 105 ls st h c n = (o_push 2 (.int 8)) r (mx_G r (t_Mo_dataByte zz)) 105 ls st h c n := mx_G_eq (tm_Mo_dataByte zz) r 105 ls st h c n
theorem st_Mo_dataByte_107 (zz : Nat × Nat) (r : mx_T) (ls : mx_L) (st : List Value) (h : mx_H) (c n : Nat) : mx_G r (t_Mo_dataByte zz) 107 ls st h c n = (o_iiz (fun x y => x - x / y * y)) r (mx_G r (t_Mo_dataByte zz)) 107 ls st h c n := mx_G_eq (tm_Mo_dataByte zz) r 107 ls st h c n
theorem st_Mo_dataByte_108 (zz : Nat × Nat) (r : mx_T) (ls : mx_L) (st : List Value) (h : mx_H) (c n : Nat) : mx_G r (t_Mo_dataByte zz) 108 ls st h c n = (o_ii (fun x y => x <<< (y &&& 31))) r (mx_G r (t_Mo_dataByte zz)) 108 ls st h c n := mx_G_eq (tm_Mo_dataByte zz) r 108 ls st h c n
theorem st_Mo_dataByte_109 (zz : Nat × Nat) (r : mx_T) (ls : mx_L) (st : List Value) (h : mx_H) (c n : Nat) : mx_G r (t_Mo_dataByte zz) 109 ls st h c n = (o_ii (fun x y => x - y)) r (mx_G r (t_Mo_dataByte zz)) 109 ls st h c n := mx_G_eq (tm_Mo_dataByte zz) r 109 ls st h c n
theorem st_Mo_dataByte_110 (zz : Nat × Nat) (r : mx_T) (ls : mx_L) (st : List Value) (h : mx_H) (c n : Nat) : mx_G r (t_Mo_dataByte zz) 110 ls st h c n = (o_istore 1 3) r (mx_G r (t_Mo_dataByte zz)) 110 ls st h c n := mx_G_eq (tm_Mo_dataByte zz) r 110 ls st h c n
theorem st_Mo_dataByte_111 (zz : Nat × Nat) (r : mx_T) (ls : mx_L) (st : List Value) (h : mx_H) (c n : Nat) : mx_G r (t_Mo_dataByte zz) 111 ls st h c n = (o_iinc 5 1) r (mx_G r (t_Mo_dataByte zz)) 111 ls st h c n := mx_G_eq (tm_Mo_dataByte zz) r 111 ls st h c n
theorem st_Mo_dataByte_114 (zz : Nat × Nat) (r : mx_T) (ls : mx_L) (st : List Value) (h : mx_H) (c n : Nat) : mx_G r (t_Mo_dataByte zz) 114 ls st h c n = (o_goto 42) r (mx_G r (t_Mo_dataByte zz)) 114 ls st h c n := mx_G_eq (tm_Mo_dataByte zz) r 114 ls st h c n
theorem st_Mo_dataByte_117 (zz : Nat × Nat) (r : mx_T) (ls : mx_L) (st : List Value) (h : mx_H) (c n : Nat) : mx_G r (t_Mo_dataByte zz) 117 ls st h c n = (o_iinc 4 1) r (mx_G r (t_Mo_dataByte zz)) 117 ls st h c n := mx_G_eq (tm_Mo_dataByte zz) r 117 ls st h c n
theorem st_Mo_dataByte_120 (zz : Nat × Nat) (r : mx_T) (ls : mx_L) (st : List Value) (h : mx_H) (c n : Nat) : mx_G r (t_Mo_dataByte zz) 120 ls st h c n = (o_goto 30) r (mx_G r (t_Mo_dataByte zz)) 120 ls st h c n := mx_G_eq (tm_Mo_dataByte zz) r 120 ls st h c n
theorem st_Mo_dataByte_123 (zz : Nat × Nat) (r : mx_T) (ls : mx_L) (st : List Value) (h : mx_H) (c n : Nat) : mx_G r (t_Mo_dataByte zz) 123 ls st h c n = (o_iload 1 3) r (mx_G r (t_Mo_dataByte zz)) 123 ls st h c n := mx_G_eq (tm_Mo_dataByte zz) r 123 ls st h c n
theorem st_Mo_dataByte_124 (zz : Nat × Nat) (r : mx_T) (ls : mx_L) (st : List Value) (h : mx_H) (c n : Nat) : mx_G r (t_Mo_dataByte zz) 124 ls st h c n = (o_iret) r (mx_G r (t_Mo_dataByte zz)) 124 ls st h c n := mx_G_eq (tm_Mo_dataByte zz) r 124 ls st h c n
theorem d_Mo_check_0 : decode c_Mo_check 0 = .ok (.iload_n 0, 1) := by decide +kernel
theorem d_Mo_check_1 : decode c_Mo_check 1 = .ok (.ifCond .ne 9, 3) := by decide +kernel
theorem d_Mo_check_4 : decode c_Mo_check 4 = .ok (.sipush 255, 3) := by decide +kernel
theorem d_Mo_check_7 : decode c_Mo_check 7 = .ok (.goto 16, 3) := by decide +kernel
theorem d_Mo_check_10 : decode c_Mo_check 10 = .ok (.sipush 255, 3) := by decide +kernel
theorem d_Mo_check_13 : decode c_Mo_check 13 = .ok (.iload_n 0, 1) := by decide +kernel
theorem d_Mo_check_14 : decode c_Mo_check 14 = .ok (.iconst 1, 1) := by decide +kernel
theorem d_Mo_check_15 : decode c_Mo_check 15 = .ok (.isub, 1) := by decide +kernel
theorem d_Mo_check_16 : decode c_Mo_check 16 = .ok (.sipush 255, 3) := by decide +kernel
theorem d_Mo_check_19 : decode c_Mo_check 19 = .ok (.irem, 1) := by decide +kernel
theorem d_Mo_check_20 : decode c_Mo_check 20 = .ok (.iconst 1, 1) := by decide +kernel
theorem d_Mo_check_21 : decode c_Mo_check 21 = .ok (.iadd, 1) := by decide +kernel
theorem d_Mo_check_22 : decode c_Mo_check 22 = .ok (.isub, 1) := by decide +kernel
theorem d_Mo_check_23 : decode c_Mo_check 23 = .ok (.ireturn, 1) := by decide +kernel
def t_Mo_check (zz : Nat × Nat) : List (Nat × mx_O) := [(0, o_iload 1 0),
  (1, o_if 10 (fun x => ¬ x = 0)),
  (4, o_push 3 (.int 255)),
  (7, o_goto 23),
  (10, o_push 3 (.int 255)),
  (13, o_iload 1 0),
  (14, o_push 1 (.int 1)),
  (15, o_ii (fun x y => x - y)),
  (16, o_push 3 (.int 255)),
  (19, o_iiz (fun x y => x - x / y * y)),
  (20, o_push 1 (.int 1)),
  (21, o_ii (fun x y => x + y)),
  (22, o_ii (fun x y => x - y)),
  (23, o_iret)]
set_option maxRecDepth 100000 in
theorem tm_Mo_check (zz : Nat × Nat) : mx_All (fun _ o => mx_Mono o) (t_Mo_check zz) := by
  refine mx_all_cons (mo_st) ?_
  refine mx_all_cons (mo_br) ?_
  refine mx_all_cons (mo_st) ?_
  refine mx_all_cons (mo_st) ?_
  refine mx_all_cons (mo_st) ?_
  refine mx_all_cons (mo_st) ?_
  refine mx_all_cons (mo_st) ?_
  refine mx_all_cons (mo_st) ?_
  refine mx_all_cons (mo_st) ?_
  refine mx_all_cons (mo_sc) ?_
  refine mx_all_cons (mo_st) ?_
  refine mx_all_cons (mo_st) ?_
  refine mx_all_cons (mo_st) ?_
  refine mx_all_cons (mo_ret) ?_
  exact mx_all_nil
def S_Mo_check (zz : Nat × Nat) : mx_Sp := mx_S 1 0 0 (t_Mo_check zz)
theorem sm_Mo_check (zz : Nat × Nat) : mx_SMono (S_Mo_check zz) := mx_S_mono (tm_Mo_check zz)
abbrev rm_Mo_check : Room := { frames := 0, cells := 0, slots := 0, locals := 0 }
set_option maxHeartbeats 4000000 in
set_option maxRecDepth 100000 in
theorem m_Mo_check (l : Launch) (zz : Nat × Nat) : mx_Met l y_Mo_check (wsOf y_Mo_check c_Mo_check 1 (some .int)) rm_Mo_check wcl (mx_Z zz) 0 0 (S_Mo_check zz) := by
  refine mx_met (cc := c_Mo_check) (ret := (some .int)) (by decide) rfl ?_
  intro p e s m args below meth c D A Post X hz hr hlk hnm
  have hm : ∀ w ∈ mw, w.before args s = true := fun w h => X.1.2.2.2.2 w (List.mem_cons_of_mem _ h)
  refine mx_all_cons (ok_iload (fun hl kk => lv_iload_n X.1.1 X.1.2.1 d_Mo_check_0 rfl hl kk)) ?_
  refine mx_all_cons (ok_if (fun kt kf => lv_if_ne X.1.1 X.1.2.1 d_Mo_check_1 (by decide) kt (fun z => kf (fun g => g z)))) ?_
  refine mx_all_cons (ok_push (fun kk => lv_sipush X.1.1 X.1.2.1 d_Mo_check_4 (by decide) kk)) ?_
  refine mx_all_cons (ok_goto X d_Mo_check_7 (by decide)) ?_
  refine mx_all_cons (ok_push (fun kk => lv_sipush X.1.1 X.1.2.1 d_Mo_check_10 (by decide) kk)) ?_
  refine mx_all_cons (ok_iload (fun hl kk => lv_iload_n X.1.1 X.1.2.1 d_Mo_check_13 rfl hl kk)) ?_
  refine mx_all_cons (ok_push (fun kk => lv_iconst X.1.1 X.1.2.1 d_Mo_check_14 (by decide) kk)) ?_
  refine mx_all_cons (ok_ii (fun kk => lv_isub X.1.1 X.1.2.1 d_Mo_check_15 kk)) ?_
  refine mx_all_cons (ok_push (fun kk => lv_sipush X.1.1 X.1.2.1 d_Mo_check_16 (by decide) kk)) ?_
  refine mx_all_cons (ok_iiz (fun hy kk => lv_irem X.1.1 X.1.2.1 d_Mo_check_19 hy kk)) ?_
  refine mx_all_cons (ok_push (fun kk => lv_iconst X.1.1 X.1.2.1 d_Mo_check_20 (by decide) kk)) ?_
  refine mx_all_cons (ok_ii (fun kk => lv_iadd X.1.1 X.1.2.1 d_Mo_check_21 kk)) ?_
  refine mx_all_cons (ok_ii (fun kk => lv_isub X.1.1 X.1.2.1 d_Mo_check_22 kk)) ?_
  refine mx_all_cons (ok_iret X hr hlk d_Mo_check_23) ?_
  exact mx_all_nil
theorem st_Mo_check_0 (zz : Nat × Nat) (r : mx_T) (ls : mx_L) (st : List Value) (h : mx_H) (c n : Nat) : mx_G r (t_Mo_check zz) 0 ls st h c n = (o_iload 1 0) r (mx_G r (t_Mo_check zz)) 0 ls st h c n := mx_G_eq (tm_Mo_check zz) r 0 ls st h c n
theorem st_Mo_check_1 (zz : Nat × Nat) (r : mx_T) (ls : mx_L) (st : List Value) (h : mx_H) (c n : Nat) : mx_G r (t_Mo_check zz) 1 ls st h c n = (o_if 10 (fun x => ¬ x = 0)) r (mx_G r (t_Mo_check zz)) 1 ls st h c n := mx_G_eq (tm_Mo_check zz) r 1 ls st h c n
theorem st_Mo_check_4 (zz : Nat × Nat) (r : mx_T) (ls : mx_L) (st : List Value) (h : mx_H) (c n : Nat) : mx_G r (t_Mo_check zz) 4 ls st h c n = (o_push 3 (.int 255)) r (mx_G r (t_Mo_check zz)) 4 ls st h c n := mx_G_eq (tm_Mo_check zz) r 4 ls st h c n
theorem st_Mo_check_7 (zz : Nat × Nat) (r : mx_T) (ls : mx_L) (st : List Value) (h : mx_H) (c n : Nat) : mx_G r (t_Mo_check zz) 7 ls st h c n = (o_goto 23) r (mx_G r (t_Mo_check zz)) 7 ls st h c n := mx_G_eq (tm_Mo_check zz) r 7 ls st h c n
theorem st_Mo_check_10 (zz : Nat × Nat) (r : mx_T) (ls : mx_L) (st : List Value) (h : mx_H) (c n : Nat) : mx_G r (t_Mo_check zz) 10 ls st h c n = (o_push 3 (.int 255)) r (mx_G r (t_Mo_check zz)) 10 ls st h c n := mx_G_eq (tm_Mo_check zz) r 10 ls st h c n
theorem st_Mo_check_13 (zz : Nat × Nat) (r : mx_T) (ls : mx_L) (st : List Value) (h : mx_H) (c n : Nat) : mx_G r (t_Mo_check zz) 13 ls st h c n = (o_iload 1 0) r (mx_G r (t_Mo_check zz)) 13 ls st h c n := mx_G_eq (tm_Mo_check zz) r 13 ls st h c n
theorem st_Mo_check_14 (zz : Nat × Nat) (r : mx_T) (ls : mx_L) (st : List Value) (h : mx_H) (c n : Nat) : mx_G r (t_Mo_check zz) 14 ls st h c n = (o_push 1 (.int 1)) r (mx_G r (t_Mo_check zz)) 14 ls st h c n := mx_G_eq (tm_Mo_check zz) r 14 ls st h c n
theorem st_Mo_check_15 (zz : Nat × Nat) (r : mx_T) (ls : mx_L) (st : List Value) (h : mx_H) (c n : Nat) : mx_G r (t_Mo_check zz) 15 ls st h c n = (o_ii (fun x y => x - y)) r (mx_G r (t_Mo_check zz)) 15 ls st h c n := mx_G_eq (tm_Mo_check zz) r 15 ls st h c n
theorem st_Mo_check_16 (zz : Nat × Nat) (r : mx_T) (ls : mx_L) (st : List Value) (h : mx_H) (c n : Nat) : mx_G r (t_Mo_check zz) 16 ls st h c n = (o_push 3 (.int 255)) r (mx_G r (t_Mo_check zz)) 16 ls st h c n := mx_G_eq (tm_Mo_check zz) r 16 ls st h c n
theorem st_Mo_check_19 (zz : Nat × Nat) (r : mx_T) (ls : mx_L) (st : List Value) (h : mx_H) (c n : Nat) : mx_G r (t_Mo_check zz) 19 ls st h c n = (o_iiz (fun x y => x - x / y * y)) r (mx_G r (t_Mo_check zz)) 19 ls st h c n := mx_G_eq (tm_Mo_check zz) r 19 ls st h c n
theorem st_Mo_check_20 (zz : Nat × Nat) (r : mx_T) (ls : mx_L) (st : List Value) (h : mx_H) (c n : Nat) : mx_G r (t_Mo_check zz) 20 ls st h c n = (o_push 1 (.int 1)) r (mx_G r (t_Mo_check zz)) 20 ls st h c n := mx_G_eq (tm_Mo_check zz) r 20 ls st h c n
theorem st_Mo_check_21 (zz : Nat × Nat) (r : mx_T) (ls : mx_L) (st : List Value) (h : mx_H) (c n : Nat) : mx_G r (t_Mo_check zz) 21 ls st h c n = (o_ii (fun x y => x + y)) r (mx_G r (t_Mo_check zz)) 21 ls st h c n := mx_G_eq (tm_Mo_check zz) r 21 ls st h c n
theorem st_Mo_check_22 (zz : Nat × Nat) (r : mx_T) (ls : mx_L) (st : List Value) (h : mx_H) (c n : Nat) : mx_G r (t_Mo_check zz) 22 ls st h c n = (o_ii (fun x y => x - y)) r (mx_G r (t_Mo_check zz)) 22 ls st h c n := mx_G_eq (tm_Mo_check zz) r 22 ls st h c n
theorem st_Mo_check_23 (zz : Nat × Nat) (r : mx_T) (ls : mx_L) (st : List Value) (h : mx_H) (c n : Nat) : mx_G r (t_Mo_check zz) 23 ls st h c n = (o_iret) r (mx_G r (t_Mo_check zz)) 23 ls st h c n := mx_G_eq (tm_Mo_check zz) r 23 ls st h c n
theorem d_Mo_respond_0 : decode c_Mo_respond 0 = .ok (.aload_n 0, 1) := by decide +kernel
theorem d_Mo_respond_1 : decode c_Mo_respond 1 = .ok (.getfield 19, 3) := by decide +kernel
theorem d_Mo_respond_4 : decode c_Mo_respond 4 = .ok (.iload_n 1, 1) := by decide +kernel
theorem d_Mo_respond_5 : decode c_Mo_respond 5 = .ok (.baload, 1) := by decide +kernel
theorem d_Mo_respond_6 : decode c_Mo_respond 6 = .ok (.ifCond .eq 12, 3) := by decide +kernel
theorem d_Mo_respond_9 : decode c_Mo_respond 9 = .ok (.aload_n 0, 1) := by decide +kernel
theorem d_Mo_respond_10 : decode c_Mo_respond 10 = .ok (.getfield 75, 3) := by decide +kernel
theorem d_Mo_respond_13 : decode c_Mo_respond 13 = .ok (.iconst 0, 1) := by decide +kernel
theorem d_Mo_respond_14 : decode c_Mo_respond 14 = .ok (.iaload, 1) := by decide +kernel
theorem d_Mo_respond_15 : decode c_Mo_respond 15 = .ok (.goto 4, 3) := by decide +kernel
theorem d_Mo_respond_18 : decode c_Mo_respond 18 = .ok (.iconst 0, 1) := by decide +kernel
theorem d_Mo_respond_19 : decode c_Mo_respond 19 = .ok (.istore_n 2, 1) := by decide +kernel
theorem d_Mo_respond_20 : decode c_Mo_respond 20 = .ok (.iconst 0, 1) := by decide +kernel
theorem d_Mo_respond_21 : decode c_Mo_respond 21 = .ok (.istore_n 3, 1) := by decide +kernel
theorem d_Mo_respond_22 : decode c_Mo_respond 22 = .ok (.iload_n 3, 1) := by decide +kernel
theorem d_Mo_respond_23 : decode c_Mo_respond 23 = .ok (.aload_n 0, 1) := by decide +kernel
theorem d_Mo_respond_24 : decode c_Mo_respond 24 = .ok (.getfield 16, 3) := by decide +kernel
theorem d_Mo_respond_27 : decode c_Mo_respond 27 = .ok (.iload_n 1, 1) := by decide +kernel
theorem d_Mo_respond_28 : decode c_Mo_respond 28 = .ok (.iaload, 1) := by decide +kernel
theorem d_Mo_respond_29 : decode c_Mo_respond 29 = .ok (.if_icmp .ge 43, 3) := by decide +kernel
theorem d_Mo_respond_32 : decode c_Mo_respond 32 = .ok (.aload_n 0, 1) := by decide +kernel
theorem d_Mo_respond_33 : decode c_Mo_respond 33 = .ok (.iload_n 1, 1) := by decide +kernel
theorem d_Mo_respond_34 : decode c_Mo_respond 34 = .ok (.iload_n 3, 1) := by decide +kernel
theorem d_Mo_respond_35 : decode c_Mo_respond 35 = .ok (.invokevirtual 147, 3) := by decide +kernel
theorem d_Mo_respond_38 : decode c_Mo_respond 38 = .ok (.istore 4, 2) := by decide +kernel
theorem d_Mo_respond_40 : decode c_Mo_respond 40 = .ok (.aload_n 0, 1) := by decide +kernel
theorem d_Mo_respond_41 : decode c_Mo_respond 41 = .ok (.getfield 75, 3) := by decide +kernel
theorem d_Mo_respond_44 : decode c_Mo_respond 44 = .ok (.aload_n 0, 1) := by decide +kernel
theorem d_Mo_respond_45 : decode c_Mo_respond 45 = .ok (.getfield 150, 3) := by decide +kernel
theorem d_Mo_respond_48 : decode c_Mo_respond 48 = .ok (.iload 4, 2) := by decide +kernel
theorem d_Mo_respond_50 : decode c_Mo_respond 50 = .ok (.iastore, 1) := by decide +kernel
theorem d_Mo_respond_51 : decode c_Mo_respond 51 = .ok (.aload_n 0, 1) := by decide +kernel
theorem d_Mo_respond_52 : decode c_Mo_respond 52 = .ok (.dup, 1) := by decide +kernel
theorem d_Mo_respond_53 : decode c_Mo_respond 53 = .ok (.getfield 150, 3) := by decide +kernel
theorem d_Mo_respond_56 : decode c_Mo_respond 56 = .ok (.iconst 1, 1) := by decide +kernel
theorem d_Mo_respond_57 : decode c_Mo_respond 57 = .ok (.iadd, 1) := by decide +kernel
theorem d_Mo_respond_58 : decode c_Mo_respond 58 = .ok (.putfield 150, 3) := by decide +kernel
theorem d_Mo_respond_61 : decode c_Mo_respond 61 = .ok (.iload_n 2, 1) := by decide +kernel
theorem d_Mo_respond_62 : decode c_Mo_respond 62 = .ok (.iload 4, 2) := by decide +kernel
theorem d_Mo_respond_64 : decode c_Mo_respond 64 = .ok (.iadd, 1) := by decide +kernel
theorem d_Mo_respond_65 : decode c_Mo_respond 65 = .ok (.istore_n 2, 1) := by decide +kernel
theorem d_Mo_respond_66 : decode c_Mo_respond 66 = .ok (.iinc 3 1, 3) := by decide +kernel
theorem d_Mo_respond_69 : decode c_Mo_respond 69 = .ok (.goto (-47), 3) := by decide +kernel
theorem d_Mo_respond_72 : decode c_Mo_respond 72 = .ok (.aload_n 0, 1) := by decide +kernel
theorem d_Mo_respond_73 : decode c_Mo_respond 73 = .ok (.getfield 75, 3) := by decide +kernel
theorem d_Mo_respond_76 : decode c_Mo_respond 76 = .ok (.aload_n 0, 1) := by decide +kernel
theorem d_Mo_respond_77 : decode c_Mo_respond 77 = .ok (.getfield 150, 3) := by decide +kernel
theorem d_Mo_respond_80 : decode c_Mo_respond 80 = .ok (.iload_n 2, 1) := by decide +kernel
theorem d_Mo_respond_81 : decode c_Mo_respond 81 = .ok (.invokestatic 153, 3) := by decide +kernel
theorem d_Mo_respond_84 : decode c_Mo_respond 84 = .ok (.iastore, 1) := by decide +kernel
theorem d_Mo_respond_85 : decode c_Mo_respond 85 = .ok (.aload_n 0, 1) := by decide +kernel
theorem d_Mo_respond_86 : decode c_Mo_respond 86 = .ok (.dup, 1) := by decide +kernel
theorem d_Mo_respond_87 : decode c_Mo_respond 87 = .ok (.getfield 150, 3) := by decide +kernel
theorem d_Mo_respond_90 : decode c_Mo_respond 90 = .ok (.iconst 1, 1) := by decide +kernel
theorem d_Mo_respond_91 : decode c_Mo_respond 91 = .ok (.iadd, 1) := by decide +kernel
theorem d_Mo_respond_92 : decode c_Mo_respond 92 = .ok (.putfield 150, 3) := by decide +kernel
theorem d_Mo_respond_95 : decode c_Mo_respond 95 = .ok (.return_, 1) := by decide +kernel
def t_Mo_respond (zz : Nat × Nat) : List (Nat × mx_O) := [(0, o_aload 1 0),
  (1, o_get 10 4),
  (4, o_iload 1 1),
  (5, o_iald .boolean),
  (6, o_if 18 (fun x => x = 0)),
  (9, o_aload 1 0),
  (10, o_get 10 35),
  (13, o_push 1 (.int 0)),
  (14, o_iald .int),
  (15, o_goto 19),
  (18, o_push 1 (.int 0)),
  (19, o_istore 1 2),
  (20, o_push 1 (.int 0)),
  (21, o_istore 1 3),
  (22, o_iload 1 3),
  (23, o_aload 1 0),
  (24, o_get 10 3),
  (27, o_iload 1 1),
  (28, o_iald .int),
  (29, o_icmp 72 (fun x y => y ≤ x)),
  (32, o_aload 1 0),
  (33, o_iload 1 1),
  (34, o_iload 1 3),
  (35, o_call 0 0 3 0 0 (mx_rv 10) (S_Mo_dataByte zz)),
  (38, o_istore 2 4),
  (40, o_aload 1 0),
  (41, o_get 10 35),
  (44, o_aload 1 0),
  (45, o_get 10 34),
  (48, o_iload 2 4),
  (50, o_iast .int (fun x => x)),
  (51, o_aload 1 0),
  (52, o_dup),
  (53, o_get 10 34),
  (56, o_push 1 (.int 1)),
  (57, o_ii (fun x y => x + y)),
  (58, o_put 10 34 mx_vI),
  (61, o_iload 1 2),
  (62, o_iload 2 4),
  (64, o_ii (fun x y => x + y)),
  (65, o_istore 1 2),
  (66, o_iinc 3 1),
  (69, o_goto 22),
  (72, o_aload 1 0),
  (73, o_get 10 35),
  (76, o_aload 1 0),
  (77, o_get 10 34),
  (80, o_iload 1 2),
  (81, o_call 0 0 1 0 0 (fun _ _ => True) (S_Mo_check zz)),
  (84, o_iast .int (fun x => x)),
  (85, o_aload 1 0),
  (86, o_dup),
  (87, o_get 10 34),
  (90, o_push 1 (.int 1)),
  (91, o_ii (fun x y => x + y)),
  (92, o_put 10 34 mx_vI),
  (95, o_vret)]
set_option maxRecDepth 100000 in
theorem tm_Mo_respond (zz : Nat × Nat) : mx_All (fun _ o => mx_Mono o) (t_Mo_respond zz) := by
  refine mx_all_cons (mo_st) ?_
  refine mx_all_cons (mo_st) ?_
  refine mx_all_cons (mo_st) ?_
  refine mx_all_cons (mo_sc) ?_
  refine mx_all_cons (mo_br) ?_
  refine mx_all_cons (mo_st) ?_
  refine mx_all_cons (mo_st) ?_
  refine mx_all_cons (mo_st) ?_
  refine mx_all_cons (mo_sc) ?_
  refine mx_all_cons (mo_st) ?_
  refine mx_all_cons (mo_st) ?_
  refine mx_all_cons (mo_st) ?_
  refine mx_all_cons (mo_st) ?_
  refine mx_all_cons (mo_st) ?_
  refine mx_all_cons (mo_st) ?_
  refine mx_all_cons (mo_st) ?_
  refine mx_all_cons (mo_st) ?_
  refine mx_all_cons (mo_st) ?_
  refine mx_all_cons (mo_sc) ?_
  refine mx_all_cons (mo_br) ?_
  refine mx_all_cons (mo_st) ?_
  refine mx_all_cons (mo_st) ?_
  refine mx_all_cons (mo_st) ?_
  refine mx_all_cons (mo_call (sm_Mo_dataByte zz)) ?_
  refine mx_all_cons (mo_st) ?_
  refine mx_all_cons (mo_st) ?_
  refine mx_all_cons (mo_st) ?_
  refine mx_all_cons (mo_st) ?_
  refine mx_all_cons (mo_st) ?_
  refine mx_all_cons (mo_st) ?_
  refine mx_all_cons (mo_sc) ?_
  refine mx_all_cons (mo_st) ?_
  refine mx_all_cons (mo_st) ?_
  refine mx_all_cons (mo_st) ?_
  refine mx_all_cons (mo_st) ?_
  refine mx_all_cons (mo_st) ?_
  refine mx_all_cons (mo_sc) ?_
  refine mx_all_cons (mo_st) ?_
  refine mx_all_cons (mo_st) ?_
  refine mx_all_cons (mo_st) ?_
  refine mx_all_cons (mo_st) ?_
  refine mx_all_cons (mo_st) ?_
  refine mx_all_cons (mo_st) ?_
  refine mx_all_cons (mo_st) ?_
  refine mx_all_cons (mo_st) ?_
  refine mx_all_cons (mo_st) ?_
  refine mx_all_cons (mo_st) ?_
  refine mx_all_cons (mo_st) ?_
  refine mx_all_cons (mo_call (sm_Mo_check zz)) ?_
  refine mx_all_cons (mo_sc) ?_
  refine mx_all_cons (mo_st) ?_
  refine mx_all_cons (mo_st) ?_
  refine mx_all_cons (mo_st) ?_
  refine mx_all_cons (mo_st) ?_
  refine mx_all_cons (mo_st) ?_
  refine mx_all_cons (mo_sc) ?_
  refine mx_all_cons (mo_ret) ?_
  exact mx_all_nil
def S_Mo_respond (zz : Nat × Nat) : mx_Sp := mx_S 5 0 0 (t_Mo_respond zz)
theorem sm_Mo_respond (zz : Nat × Nat) : mx_SMono (S_Mo_respond zz) := mx_S_mono (tm_Mo_respond zz)
abbrev rm_Mo_respond : Room := { frames := 3, cells := 0, slots := 0, locals := 69 }
set_option maxHeartbeats 4000000 in
set_option maxRecDepth 100000 in
theorem m_Mo_respond (l : Launch) (zz : Nat × Nat) : mx_Met l y_Mo_respond (wsOf y_Mo_respond c_Mo_respond 5 none) rm_Mo_respond wcl (mx_Z zz) 0 0 (S_Mo_respond zz) := by
  refine mx_met (cc := c_Mo_respond) (ret := none) (by decide) rfl ?_
  intro p e s m args below meth c D A Post X hz hr hlk hnm
  have hm : ∀ w ∈ mw, w.before args s = true := fun w h => X.1.2.2.2.2 w (List.mem_cons_of_mem _ h)
  refine mx_all_cons (ok_aload (fun hl kk => lv_aload_n X.1.1 X.1.2.1 d_Mo_respond_0 rfl hl kk) (fun hl kk => lv_aload_nN X.1.1 X.1.2.1 d_Mo_respond_0 rfl hl kk)) ?_
  refine mx_all_cons (ok_get (C := "HeaderScheduleModel") (T := T_Mo) (N := 40) X (mw_up in_Mo) rfl 4 (by decide) (hm _ w681) (fun _ h9 => h9) d_Mo_respond_1) ?_
  refine mx_all_cons (ok_iload (fun hl kk => lv_iload_n X.1.1 X.1.2.1 d_Mo_respond_4 rfl hl kk)) ?_
  refine mx_all_cons (ok_zald X d_Mo_respond_5) ?_
  refine mx_all_cons (ok_if (fun kt kf => lv_if_eq X.1.1 X.1.2.1 d_Mo_respond_6 (by decide) kt kf)) ?_
  refine mx_all_cons (ok_aload (fun hl kk => lv_aload_n X.1.1 X.1.2.1 d_Mo_respond_9 rfl hl kk) (fun hl kk => lv_aload_nN X.1.1 X.1.2.1 d_Mo_respond_9 rfl hl kk)) ?_
  refine mx_all_cons (ok_get (C := "HeaderScheduleModel") (T := T_Mo) (N := 40) X (mw_up in_Mo) rfl 35 (by decide) (hm _ w712) (fun _ h9 => h9) d_Mo_respond_10) ?_
  refine mx_all_cons (ok_push (fun kk => lv_iconst X.1.1 X.1.2.1 d_Mo_respond_13 (by decide) kk)) ?_
  refine mx_all_cons (ok_iald X d_Mo_respond_14) ?_
  refine mx_all_cons (ok_goto X d_Mo_respond_15 (by decide)) ?_
  refine mx_all_cons (ok_push (fun kk => lv_iconst X.1.1 X.1.2.1 d_Mo_respond_18 (by decide) kk)) ?_
  refine mx_all_cons (ok_istore (fun hl kk => lv_istore_n X.1.1 X.1.2.1 d_Mo_respond_19 rfl hl (by decide) rfl kk)) ?_
  refine mx_all_cons (ok_push (fun kk => lv_iconst X.1.1 X.1.2.1 d_Mo_respond_20 (by decide) kk)) ?_
  refine mx_all_cons (ok_istore (fun hl kk => lv_istore_n X.1.1 X.1.2.1 d_Mo_respond_21 rfl hl (by decide) rfl kk)) ?_
  refine mx_all_cons (ok_iload (fun hl kk => lv_iload_n X.1.1 X.1.2.1 d_Mo_respond_22 rfl hl kk)) ?_
  refine mx_all_cons (ok_aload (fun hl kk => lv_aload_n X.1.1 X.1.2.1 d_Mo_respond_23 rfl hl kk) (fun hl kk => lv_aload_nN X.1.1 X.1.2.1 d_Mo_respond_23 rfl hl kk)) ?_
  refine mx_all_cons (ok_get (C := "HeaderScheduleModel") (T := T_Mo) (N := 40) X (mw_up in_Mo) rfl 3 (by decide) (hm _ w680) (fun _ h9 => h9) d_Mo_respond_24) ?_
  refine mx_all_cons (ok_iload (fun hl kk => lv_iload_n X.1.1 X.1.2.1 d_Mo_respond_27 rfl hl kk)) ?_
  refine mx_all_cons (ok_iald X d_Mo_respond_28) ?_
  refine mx_all_cons (ok_icmp (fun kt kf => lv_icmp_ge X.1.1 X.1.2.1 d_Mo_respond_29 (by decide) kt kf)) ?_
  refine mx_all_cons (ok_aload (fun hl kk => lv_aload_n X.1.1 X.1.2.1 d_Mo_respond_32 rfl hl kk) (fun hl kk => lv_aload_nN X.1.1 X.1.2.1 d_Mo_respond_32 rfl hl kk)) ?_
  refine mx_all_cons (ok_iload (fun hl kk => lv_iload_n X.1.1 X.1.2.1 d_Mo_respond_33 rfl hl kk)) ?_
  refine mx_all_cons (ok_iload (fun hl kk => lv_iload_n X.1.1 X.1.2.1 d_Mo_respond_34 rfl hl kk)) ?_
  refine mx_all_cons (ok_callV (C := "HeaderScheduleModel") (T := T_Mo) (N := 40) X (mx_Zok_Z zz) hz ⟨(Nat.le_of_ble_eq_true rfl), (Nat.le_of_ble_eq_true rfl)⟩ (m_Mo_dataByte l zz) ⟨mx_cwB 2 hm w902 w899 w40 rfl rfl (by decide +kernel) ⟨(Nat.le_of_ble_eq_true rfl), (Nat.le_of_ble_eq_true rfl)⟩, (hm _ w901), hm _ w26⟩ rfl d_Mo_respond_35) ?_
  refine mx_all_cons (ok_istore (fun hl kk => lv_istore X.1.1 X.1.2.1 d_Mo_respond_38 hl (by decide) rfl kk)) ?_
  refine mx_all_cons (ok_aload (fun hl kk => lv_aload_n X.1.1 X.1.2.1 d_Mo_respond_40 rfl hl kk) (fun hl kk => lv_aload_nN X.1.1 X.1.2.1 d_Mo_respond_40 rfl hl kk)) ?_
  refine mx_all_cons (ok_get (C := "HeaderScheduleModel") (T := T_Mo) (N := 40) X (mw_up in_Mo) rfl 35 (by decide) (hm _ w712) (fun _ h9 => h9) d_Mo_respond_41) ?_
  refine mx_all_cons (ok_aload (fun hl kk => lv_aload_n X.1.1 X.1.2.1 d_Mo_respond_44 rfl hl kk) (fun hl kk => lv_aload_nN X.1.1 X.1.2.1 d_Mo_respond_44 rfl hl kk)) ?_
  refine mx_all_cons (ok_get (C := "HeaderScheduleModel") (T := T_Mo) (N := 40) X (mw_up in_Mo) rfl 34 (by decide) (hm _ w711) (fun _ h9 => h9) d_Mo_respond_45) ?_
  refine mx_all_cons (ok_iload (fun hl kk => lv_iload X.1.1 X.1.2.1 d_Mo_respond_48 hl kk)) ?_
  refine mx_all_cons (ok_iast X d_Mo_respond_50) ?_
  refine mx_all_cons (ok_aload (fun hl kk => lv_aload_n X.1.1 X.1.2.1 d_Mo_respond_51 rfl hl kk) (fun hl kk => lv_aload_nN X.1.1 X.1.2.1 d_Mo_respond_51 rfl hl kk)) ?_
  refine mx_all_cons (ok_dup X d_Mo_respond_52) ?_
  refine mx_all_cons (ok_get (C := "HeaderScheduleModel") (T := T_Mo) (N := 40) X (mw_up in_Mo) rfl 34 (by decide) (hm _ w711) (fun _ h9 => h9) d_Mo_respond_53) ?_
  refine mx_all_cons (ok_push (fun kk => lv_iconst X.1.1 X.1.2.1 d_Mo_respond_56 (by decide) kk)) ?_
  refine mx_all_cons (ok_ii (fun kk => lv_iadd X.1.1 X.1.2.1 d_Mo_respond_57 kk)) ?_
  refine mx_all_cons (ok_put (C := "HeaderScheduleModel") (T := T_Mo) (N := 40) X (mw_up in_Mo) ty_Mo tyok_Mo nm_Mo rfl 34 (by decide) (hm _ w711) (fun _ h9 => h9) rfl (tyok_Mo 34 (by decide)) mx_vI_ok d_Mo_respond_58) ?_
  refine mx_all_cons (ok_iload (fun hl kk => lv_iload_n X.1.1 X.1.2.1 d_Mo_respond_61 rfl hl kk)) ?_
  refine mx_all_cons (ok_iload (fun hl kk => lv_iload X.1.1 X.1.2.1 d_Mo_respond_62 hl kk)) ?_
  refine mx_all_cons (ok_ii (fun kk => lv_iadd X.1.1 X.1.2.1 d_Mo_respond_64 kk)) ?_
  refine mx_all_cons (ok_istore (fun hl kk => lv_istore_n X.1.1 X.1.2.1 d_Mo_respond_65 rfl hl (by decide) rfl kk)) ?_
  refine mx_all_cons (ok_iinc X (by decide) (by decide) d_Mo_respond_66) ?_
  refine mx_all_cons (ok_goto X d_Mo_respond_69 (by decide)) ?_
  refine mx_all_cons (ok_aload (fun hl kk => lv_aload_n X.1.1 X.1.2.1 d_Mo_respond_72 rfl hl kk) (fun hl kk => lv_aload_nN X.1.1 X.1.2.1 d_Mo_respond_72 rfl hl kk)) ?_
  refine mx_all_cons (ok_get (C := "HeaderScheduleModel") (T := T_Mo) (N := 40) X (mw_up in_Mo) rfl 35 (by decide) (hm _ w712) (fun _ h9 => h9) d_Mo_respond_73) ?_
  refine mx_all_cons (ok_aload (fun hl kk => lv_aload_n X.1.1 X.1.2.1 d_Mo_respond_76 rfl hl kk) (fun hl kk => lv_aload_nN X.1.1 X.1.2.1 d_Mo_respond_76 rfl hl kk)) ?_
  refine mx_all_cons (ok_get (C := "HeaderScheduleModel") (T := T_Mo) (N := 40) X (mw_up in_Mo) rfl 34 (by decide) (hm _ w711) (fun _ h9 => h9) d_Mo_respond_77) ?_
  refine mx_all_cons (ok_iload (fun hl kk => lv_iload_n X.1.1 X.1.2.1 d_Mo_respond_80 rfl hl kk)) ?_
  refine mx_all_cons (ok_callS X (mx_Zok_Z zz) hz ⟨(Nat.le_of_ble_eq_true rfl), (Nat.le_of_ble_eq_true rfl)⟩ (m_Mo_check l zz) ⟨mx_cwB 1 hm w905 w903 w40 rfl rfl (by decide +kernel) ⟨(Nat.le_of_ble_eq_true rfl), (Nat.le_of_ble_eq_true rfl)⟩, (hm _ w904)⟩ d_Mo_respond_81) ?_
  refine mx_all_cons (ok_iast X d_Mo_respond_84) ?_
  refine mx_all_cons (ok_aload (fun hl kk => lv_aload_n X.1.1 X.1.2.1 d_Mo_respond_85 rfl hl kk) (fun hl kk => lv_aload_nN X.1.1 X.1.2.1 d_Mo_respond_85 rfl hl kk)) ?_
  refine mx_all_cons (ok_dup X d_Mo_respond_86) ?_
  refine mx_all_cons (ok_get (C := "HeaderScheduleModel") (T := T_Mo) (N := 40) X (mw_up in_Mo) rfl 34 (by decide) (hm _ w711) (fun _ h9 => h9) d_Mo_respond_87) ?_
  refine mx_all_cons (ok_push (fun kk => lv_iconst X.1.1 X.1.2.1 d_Mo_respond_90 (by decide) kk)) ?_
  refine mx_all_cons (ok_ii (fun kk => lv_iadd X.1.1 X.1.2.1 d_Mo_respond_91 kk)) ?_
  refine mx_all_cons (ok_put (C := "HeaderScheduleModel") (T := T_Mo) (N := 40) X (mw_up in_Mo) ty_Mo tyok_Mo nm_Mo rfl 34 (by decide) (hm _ w711) (fun _ h9 => h9) rfl (tyok_Mo 34 (by decide)) mx_vI_ok d_Mo_respond_92) ?_
  refine mx_all_cons (ok_vret X hr hlk d_Mo_respond_95) ?_
  exact mx_all_nil
theorem st_Mo_respond_0 (zz : Nat × Nat) (r : mx_T) (ls : mx_L) (st : List Value) (h : mx_H) (c n : Nat) : mx_G r (t_Mo_respond zz) 0 ls st h c n = (o_aload 1 0) r (mx_G r (t_Mo_respond zz)) 0 ls st h c n := mx_G_eq (tm_Mo_respond zz) r 0 ls st h c n
theorem st_Mo_respond_1 (zz : Nat × Nat) (r : mx_T) (ls : mx_L) (st : List Value) (h : mx_H) (c n : Nat) : mx_G r (t_Mo_respond zz) 1 ls st h c n = (o_get 10 4) r (mx_G r (t_Mo_respond zz)) 1 ls st h c n := mx_G_eq (tm_Mo_respond zz) r 1 ls st h c n
theorem st_Mo_respond_4 (zz : Nat × Nat) (r : mx_T) (ls : mx_L) (st : List Value) (h : mx_H) (c n : Nat) : mx_G r (t_Mo_respond zz) 4 ls st h c n = (o_iload 1 1) r (mx_G r (t_Mo_respond zz)) 4 ls st h c n := mx_G_eq (tm_Mo_respond zz) r 4 ls st h c n
theorem st_Mo_respond_5 (zz : Nat × Nat) (r : mx_T) (ls : mx_L) (st : List Value) (h : mx_H) (c n : Nat) : mx_G r (t_Mo_respond zz) 5 ls st h c n = (o_iald .boolean) r (mx_G r (t_Mo_respond zz)) 5 ls st h c n := mx_G_eq (tm_Mo_respond zz) r 5 ls st h c n
theorem st_Mo_respond_6 (zz : Nat × Nat) (r : mx_T) (ls : mx_L) (st : List Value) (h : mx_H) (c n : Nat) : mx_G r (t_Mo_respond zz) 6 ls st h c n = (o_if 18 (fun x => x = 0)) r (mx_G r (t_Mo_respond zz)) 6 ls st h c n := mx_G_eq (tm_Mo_respond zz) r 6 ls st h c n
theorem st_Mo_respond_9 (zz : Nat × Nat) (r : mx_T) (ls : mx_L) (st : List Value) (h : mx_H) (c n : Nat) : mx_G r (t_Mo_respond zz) 9 ls st h c n = (o_aload 1 0) r (mx_G r (t_Mo_respond zz)) 9 ls st h c n := mx_G_eq (tm_Mo_respond zz) r 9 ls st h c n
theorem st_Mo_respond_10 (zz : Nat × Nat) (r : mx_T) (ls : mx_L) (st : List Value) (h : mx_H) (c n : Nat) : mx_G r (t_Mo_respond zz) 10 ls st h c n = (o_get 10 35) r (mx_G r (t_Mo_respond zz)) 10 ls st h c n := mx_G_eq (tm_Mo_respond zz) r 10 ls st h c n
theorem st_Mo_respond_13 (zz : Nat × Nat) (r : mx_T) (ls : mx_L) (st : List Value) (h : mx_H) (c n : Nat) : mx_G r (t_Mo_respond zz) 13 ls st h c n = (o_push 1 (.int 0)) r (mx_G r (t_Mo_respond zz)) 13 ls st h c n := mx_G_eq (tm_Mo_respond zz) r 13 ls st h c n
theorem st_Mo_respond_14 (zz : Nat × Nat) (r : mx_T) (ls : mx_L) (st : List Value) (h : mx_H) (c n : Nat) : mx_G r (t_Mo_respond zz) 14 ls st h c n = (o_iald .int) r (mx_G r (t_Mo_respond zz)) 14 ls st h c n := mx_G_eq (tm_Mo_respond zz) r 14 ls st h c n
theorem st_Mo_respond_15 (zz : Nat × Nat) (r : mx_T) (ls : mx_L) (st : List Value) (h : mx_H) (c n : Nat) : mx_G r (t_Mo_respond zz) 15 ls st h c n = (o_goto 19) r (mx_G r (t_Mo_respond zz)) 15 ls st h c n := mx_G_eq (tm_Mo_respond zz) r 15 ls st h c n
theorem st_Mo_respond_18 (zz : Nat × Nat) (r : mx_T) (ls : mx_L) (st : List Value) (h : mx_H) (c n : Nat) : mx_G r (t_Mo_respond zz) 18 ls st h c n = (o_push 1 (.int 0)) r (mx_G r (t_Mo_respond zz)) 18 ls st h c n := mx_G_eq (tm_Mo_respond zz) r 18 ls st h c n
theorem st_Mo_respond_19 (zz : Nat × Nat) (r : mx_T) (ls : mx_L) (st : List Value) (h : mx_H) (c n : Nat) : mx_G r (t_Mo_respond zz) 19 ls st h c n = (o_istore 1 2) r (mx_G r (t_Mo_respond zz)) 19 ls st h c n := mx_G_eq (tm_Mo_respond zz) r 19 ls st h c n
theorem st_Mo_respond_20 (zz : Nat × Nat) (r : mx_T) (ls : mx_L) (st : List Value) (h : mx_H) (c n : Nat) : mx_G r (t_Mo_respond zz) 20 ls st h c n = (o_push 1 (.int 0)) r (mx_G r (t_Mo_respond zz)) 20 ls st h c n := mx_G_eq (tm_Mo_respond zz) r 20 ls st h c n
theorem st_Mo_respond_21 (zz : Nat × Nat) (r : mx_T) (ls : mx_L) (st : List Value) (h : mx_H) (c n : Nat) : mx_G r (t_Mo_respond zz) 21 ls st h c n = (o_istore 1 3) r (mx_G r (t_Mo_respond zz)) 21 ls st h c n := mx_G_eq (tm_Mo_respond zz) r 21 ls st h c n
theorem st_Mo_respond_22 (zz : Nat × Nat) (r : mx_T) (ls : mx_L) (st : List Value) (h : mx_H) (c n : Nat) : mx_G r (t_Mo_respond zz) 22 ls st h c n = (o_iload 1 3) r (mx_G r (t_Mo_respond zz)) 22 ls st h c n := mx_G_eq (tm_Mo_respond zz) r 22 ls st h c n
theorem st_Mo_respond_23 (zz : Nat × Nat) (r : mx_T) (ls : mx_L) (st : List Value) (h : mx_H) (c n : Nat) : mx_G r (t_Mo_respond zz) 23 ls st h c n = (o_aload 1 0) r (mx_G r (t_Mo_respond zz)) 23 ls st h c n := mx_G_eq (tm_Mo_respond zz) r 23 ls st h c n
theorem st_Mo_respond_24 (zz : Nat × Nat) (r : mx_T) (ls : mx_L) (st : List Value) (h : mx_H) (c n : Nat) : mx_G r (t_Mo_respond zz) 24 ls st h c n = (o_get 10 3) r (mx_G r (t_Mo_respond zz)) 24 ls st h c n := mx_G_eq (tm_Mo_respond zz) r 24 ls st h c n
theorem st_Mo_respond_27 (zz : Nat × Nat) (r : mx_T) (ls : mx_L) (st : List Value) (h : mx_H) (c n : Nat) : mx_G r (t_Mo_respond zz) 27 ls st h c n = (o_iload 1 1) r (mx_G r (t_Mo_respond zz)) 27 ls st h c n := mx_G_eq (tm_Mo_respond zz) r 27 ls st h c n
theorem st_Mo_respond_28 (zz : Nat × Nat) (r : mx_T) (ls : mx_L) (st : List Value) (h : mx_H) (c n : Nat) : mx_G r (t_Mo_respond zz) 28 ls st h c n = (o_iald .int) r (mx_G r (t_Mo_respond zz)) 28 ls st h c n := mx_G_eq (tm_Mo_respond zz) r 28 ls st h c n
theorem st_Mo_respond_29 (zz : Nat × Nat) (r : mx_T) (ls : mx_L) (st : List Value) (h : mx_H) (c n : Nat) : mx_G r (t_Mo_respond zz) 29 ls st h c n = (o_icmp 72 (fun x y => y ≤ x)) r (mx_G r (t_Mo_respond zz)) 29 ls st h c n := mx_G_eq (tm_Mo_respond zz) r 29 ls st h c n
theorem st_Mo_respond_32 (zz : Nat × Nat) (r : mx_T) (ls : mx_L) (st : List Value) (h : mx_H) (c n : Nat) : mx_G r (t_Mo_respond zz) 32 ls st h c n = (o_aload 1 0) r (mx_G r (t_Mo_respond zz)) 32 ls st h c n := mx_G_eq (tm_Mo_respond zz) r 32 ls st h c n
theorem st_Mo_respond_33 (zz : Nat × Nat) (r : mx_T) (ls : mx_L) (st : List Value) (h : mx_H) (c n : Nat) : mx_G r (t_Mo_respond zz) 33 ls st h c n = (o_iload 1 1) r (mx_G r (t_Mo_respond zz)) 33 ls st h c n := mx_G_eq (tm_Mo_respond zz) r 33 ls st h c n
theorem st_Mo_respond_34 (zz : Nat × Nat) (r : mx_T) (ls : mx_L) (st : List Value) (h : mx_H) (c n : Nat) : mx_G r (t_Mo_respond zz) 34 ls st h c n = (o_iload 1 3) r (mx_G r (t_Mo_respond zz)) 34 ls st h c n := mx_G_eq (tm_Mo_respond zz) r 34 ls st h c n
theorem st_Mo_respond_35 (zz : Nat × Nat) (r : mx_T) (ls : mx_L) (st : List Value) (h : mx_H) (c n : Nat) : mx_G r (t_Mo_respond zz) 35 ls st h c n = (o_call 0 0 3 0 0 (mx_rv 10) (S_Mo_dataByte zz)) r (mx_G r (t_Mo_respond zz)) 35 ls st h c n := mx_G_eq (tm_Mo_respond zz) r 35 ls st h c n
theorem st_Mo_respond_38 (zz : Nat × Nat) (r : mx_T) (ls : mx_L) (st : List Value) (h : mx_H) (c n : Nat) : mx_G r (t_Mo_respond zz) 38 ls st h c n = (o_istore 2 4) r (mx_G r (t_Mo_respond zz)) 38 ls st h c n := mx_G_eq (tm_Mo_respond zz) r 38 ls st h c n
theorem st_Mo_respond_40 (zz : Nat × Nat) (r : mx_T) (ls : mx_L) (st : List Value) (h : mx_H) (c n : Nat) : mx_G r (t_Mo_respond zz) 40 ls st h c n = (o_aload 1 0) r (mx_G r (t_Mo_respond zz)) 40 ls st h c n := mx_G_eq (tm_Mo_respond zz) r 40 ls st h c n
theorem st_Mo_respond_41 (zz : Nat × Nat) (r : mx_T) (ls : mx_L) (st : List Value) (h : mx_H) (c n : Nat) : mx_G r (t_Mo_respond zz) 41 ls st h c n = (o_get 10 35) r (mx_G r (t_Mo_respond zz)) 41 ls st h c n := mx_G_eq (tm_Mo_respond zz) r 41 ls st h c n
theorem st_Mo_respond_44 (zz : Nat × Nat) (r : mx_T) (ls : mx_L) (st : List Value) (h : mx_H) (c n : Nat) : mx_G r (t_Mo_respond zz) 44 ls st h c n = (o_aload 1 0) r (mx_G r (t_Mo_respond zz)) 44 ls st h c n := mx_G_eq (tm_Mo_respond zz) r 44 ls st h c n
theorem st_Mo_respond_45 (zz : Nat × Nat) (r : mx_T) (ls : mx_L) (st : List Value) (h : mx_H) (c n : Nat) : mx_G r (t_Mo_respond zz) 45 ls st h c n = (o_get 10 34) r (mx_G r (t_Mo_respond zz)) 45 ls st h c n := mx_G_eq (tm_Mo_respond zz) r 45 ls st h c n
theorem st_Mo_respond_48 (zz : Nat × Nat) (r : mx_T) (ls : mx_L) (st : List Value) (h : mx_H) (c n : Nat) : mx_G r (t_Mo_respond zz) 48 ls st h c n = (o_iload 2 4) r (mx_G r (t_Mo_respond zz)) 48 ls st h c n := mx_G_eq (tm_Mo_respond zz) r 48 ls st h c n
theorem st_Mo_respond_50 (zz : Nat × Nat) (r : mx_T) (ls : mx_L) (st : List Value) (h : mx_H) (c n : Nat) : mx_G r (t_Mo_respond zz) 50 ls st h c n = (o_iast .int (fun x => x)) r (mx_G r (t_Mo_respond zz)) 50 ls st h c n := mx_G_eq (tm_Mo_respond zz) r 50 ls st h c n
theorem st_Mo_respond_51 (zz : Nat × Nat) (r : mx_T) (ls : mx_L) (st : List Value) (h : mx_H) (c n : Nat) : mx_G r (t_Mo_respond zz) 51 ls st h c n = (o_aload 1 0) r (mx_G r (t_Mo_respond zz)) 51 ls st h c n := mx_G_eq (tm_Mo_respond zz) r 51 ls st h c n
theorem st_Mo_respond_52 (zz : Nat × Nat) (r : mx_T) (ls : mx_L) (st : List Value) (h : mx_H) (c n : Nat) : mx_G r (t_Mo_respond zz) 52 ls st h c n = (o_dup) r (mx_G r (t_Mo_respond zz)) 52 ls st h c n := mx_G_eq (tm_Mo_respond zz) r 52 ls st h c n
theorem st_Mo_respond_53 (zz : Nat × Nat) (r : mx_T) (ls : mx_L) (st : List Value) (h : mx_H) (c n : Nat) : mx_G r (t_Mo_respond zz) 53 ls st h c n = (o_get 10 34) r (mx_G r (t_Mo_respond zz)) 53 ls st h c n := mx_G_eq (tm_Mo_respond zz) r 53 ls st h c n
theorem st_Mo_respond_56 (zz : Nat × Nat) (r : mx_T) (ls : mx_L) (st : List Value) (h : mx_H) (c n : Nat) : mx_G r (t_Mo_respond zz) 56 ls st h c n = (o_push 1 (.int 1)) r (mx_G r (t_Mo_respond zz)) 56 ls st h c n := mx_G_eq (tm_Mo_respond zz) r 56 ls st h c n
theorem st_Mo_respond_57 (zz : Nat × Nat) (r : mx_T) (ls : mx_L) (st : List Value) (h : mx_H) (c n : Nat) : mx_G r (t_Mo_respond zz) 57 ls st h c n = (o_ii (fun x y => x + y)) r (mx_G r (t_Mo_respond zz)) 57 ls st h c n := mx_G_eq (tm_Mo_respond zz) r 57 ls st h c n
theorem st_Mo_respond_58 (zz : Nat × Nat) (r : mx_T) (ls : mx_L) (st : List Value) (h : mx_H) (c n : Nat) : mx_G r (t_Mo_respond zz) 58 ls st h c n = (o_put 10 34 mx_vI) r (mx_G r (t_Mo_respond zz)) 58 ls st h c n := mx_G_eq (tm_Mo_respond zz) r 58 ls st h c n
theorem st_Mo_respond_61 (zz : Nat × Nat) (r : mx_T) (ls : mx_L) (st : List Value) (h : mx_H) (c n : Nat) : mx_G r (t_Mo_respond zz) 61 ls st h c n = (o_iload 1 2) r (mx_G r (t_Mo_respond zz)) 61 ls st h c n := mx_G_eq (tm_Mo_respond zz) r 61 ls st h c n
theorem st_Mo_respond_62 (zz : Nat × Nat) (r : mx_T) (ls : mx_L) (st : List Value) (h : mx_H) (c n : Nat) : mx_G r (t_Mo_respond zz) 62 ls st h c n = (o_iload 2 4) r (mx_G r (t_Mo_respond zz)) 62 ls st h c n := mx_G_eq (tm_Mo_respond zz) r 62 ls st h c n
theorem st_Mo_respond_64 (zz : Nat × Nat) (r : mx_T) (ls : mx_L) (st : List Value) (h : mx_H) (c n : Nat) : mx_G r (t_Mo_respond zz) 64 ls st h c n = (o_ii (fun x y => x + y)) r (mx_G r (t_Mo_respond zz)) 64 ls st h c n := mx_G_eq (tm_Mo_respond zz) r 64 ls st h c n
theorem st_Mo_respond_65 (zz : Nat × Nat) (r : mx_T) (ls : mx_L) (st : List Value) (h : mx_H) (c n : Nat) : mx_G r (t_Mo_respond zz) 65 ls st h c n = (o_istore 1 2) r (mx_G r (t_Mo_respond zz)) 65 ls st h c n := mx_G_eq (tm_Mo_respond zz) r 65 ls st h c n
theorem st_Mo_respond_66 (zz : Nat × Nat) (r : mx_T) (ls : mx_L) (st : List Value) (h : mx_H) (c n : Nat) : mx_G r (t_Mo_respond zz) 66 ls st h c n = (o_iinc 3 1) r (mx_G r (t_Mo_respond zz)) 66 ls st h c n := mx_G_eq (tm_Mo_respond zz) r 66 ls st h c n
theorem st_Mo_respond_69 (zz : Nat × Nat) (r : mx_T) (ls : mx_L) (st : List Value) (h : mx_H) (c n : Nat) : mx_G r (t_Mo_respond zz) 69 ls st h c n = (o_goto 22) r (mx_G r (t_Mo_respond zz)) 69 ls st h c n := mx_G_eq (tm_Mo_respond zz) r 69 ls st h c n
theorem st_Mo_respond_72 (zz : Nat × Nat) (r : mx_T) (ls : mx_L) (st : List Value) (h : mx_H) (c n : Nat) : mx_G r (t_Mo_respond zz) 72 ls st h c n = (o_aload 1 0) r (mx_G r (t_Mo_respond zz)) 72 ls st h c n := mx_G_eq (tm_Mo_respond zz) r 72 ls st h c n
theorem st_Mo_respond_73 (zz : Nat × Nat) (r : mx_T) (ls : mx_L) (st : List Value) (h : mx_H) (c n : Nat) : mx_G r (t_Mo_respond zz) 73 ls st h c n = (o_get 10 35) r (mx_G r (t_Mo_respond zz)) 73 ls st h c n := mx_G_eq (tm_Mo_respond zz) r 73 ls st h c n
theorem st_Mo_respond_76 (zz : Nat × Nat) (r : mx_T) (ls : mx_L) (st : List Value) (h : mx_H) (c n : Nat) : mx_G r (t_Mo_respond zz) 76 ls st h c n = (o_aload 1 0) r (mx_G r (t_Mo_respond zz)) 76 ls st h c n := mx_G_eq (tm_Mo_respond zz) r 76 ls st h c n
theorem st_Mo_respond_77 (zz : Nat × Nat) (r : mx_T) (ls : mx_L) (st : List Value) (h : mx_H) (c n : Nat) : mx_G r (t_Mo_respond zz) 77 ls st h c n = (o_get 10 34) r (mx_G r (t_Mo_respond zz)) 77 ls st h c n := mx_G_eq (tm_Mo_respond zz) r 77 ls st h c n
theorem st_Mo_respond_80 (zz : Nat × Nat) (r : mx_T) (ls : mx_L) (st : List Value) (h : mx_H) (c n : Nat) : mx_G r (t_Mo_respond zz) 80 ls st h c n = (o_iload 1 2) r (mx_G r (t_Mo_respond zz)) 80 ls st h c n := mx_G_eq (tm_Mo_respond zz) r 80 ls st h c n
theorem st_Mo_respond_81 (zz : Nat × Nat) (r : mx_T) (ls : mx_L) (st : List Value) (h : mx_H) (c n : Nat) : mx_G r (t_Mo_respond zz) 81 ls st h c n = (o_call 0 0 1 0 0 (fun _ _ => True) (S_Mo_check zz)) r (mx_G r (t_Mo_respond zz)) 81 ls st h c n := mx_G_eq (tm_Mo_respond zz) r 81 ls st h c n
theorem st_Mo_respond_84 (zz : Nat × Nat) (r : mx_T) (ls : mx_L) (st : List Value) (h : mx_H) (c n : Nat) : mx_G r (t_Mo_respond zz) 84 ls st h c n = (o_iast .int (fun x => x)) r (mx_G r (t_Mo_respond zz)) 84 ls st h c n := mx_G_eq (tm_Mo_respond zz) r 84 ls st h c n
theorem st_Mo_respond_85 (zz : Nat × Nat) (r : mx_T) (ls : mx_L) (st : List Value) (h : mx_H) (c n : Nat) : mx_G r (t_Mo_respond zz) 85 ls st h c n = (o_aload 1 0) r (mx_G r (t_Mo_respond zz)) 85 ls st h c n := mx_G_eq (tm_Mo_respond zz) r 85 ls st h c n
theorem st_Mo_respond_86 (zz : Nat × Nat) (r : mx_T) (ls : mx_L) (st : List Value) (h : mx_H) (c n : Nat) : mx_G r (t_Mo_respond zz) 86 ls st h c n = (o_dup) r (mx_G r (t_Mo_respond zz)) 86 ls st h c n := mx_G_eq (tm_Mo_respond zz) r 86 ls st h c n
theorem st_Mo_respond_87 (zz : Nat × Nat) (r : mx_T) (ls : mx_L) (st : List Value) (h : mx_H) (c n : Nat) : mx_G r (t_Mo_respond zz) 87 ls st h c n = (o_get 10 34) r (mx_G r (t_Mo_respond zz)) 87 ls st h c n := mx_G_eq (tm_Mo_respond zz) r 87 ls st h c n
theorem st_Mo_respond_90 (zz : Nat × Nat) (r : mx_T) (ls : mx_L) (st : List Value) (h : mx_H) (c n : Nat) : mx_G r (t_Mo_respond zz) 90 ls st h c n = (o_push 1 (.int 1)) r (mx_G r (t_Mo_respond zz)) 90 ls st h c n := mx_G_eq (tm_Mo_respond zz) r 90 ls st h c n
theorem st_Mo_respond_91 (zz : Nat × Nat) (r : mx_T) (ls : mx_L) (st : List Value) (h : mx_H) (c n : Nat) : mx_G r (t_Mo_respond zz) 91 ls st h c n = (o_ii (fun x y => x + y)) r (mx_G r (t_Mo_respond zz)) 91 ls st h c n := mx_G_eq (tm_Mo_respond zz) r 91 ls st h c n
theorem st_Mo_respond_92 (zz : Nat × Nat) (r : mx_T) (ls : mx_L) (st : List Value) (h : mx_H) (c n : Nat) : mx_G r (t_Mo_respond zz) 92 ls st h c n = (o_put 10 34 mx_vI) r (mx_G r (t_Mo_respond zz)) 92 ls st h c n := mx_G_eq (tm_Mo_respond zz) r 92 ls st h c n
theorem st_Mo_respond_95 (zz : Nat × Nat) (r : mx_T) (ls : mx_L) (st : List Value) (h : mx_H) (c n : Nat) : mx_G r (t_Mo_respond zz) 95 ls st h c n = (o_vret) r (mx_G r (t_Mo_respond zz)) 95 ls st h c n := mx_G_eq (tm_Mo_respond zz) r 95 ls st h c n
