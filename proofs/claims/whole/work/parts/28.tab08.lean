theorem d_Mo_disturb_0 : decode c_Mo_disturb 0 = .ok (.aload_n 0, 1) := by decide +kernel
theorem d_Mo_disturb_1 : decode c_Mo_disturb 1 = .ok (.getfield 130, 3) := by decide +kernel
theorem d_Mo_disturb_4 : decode c_Mo_disturb 4 = .ok (.ifCond .eq 43, 3) := by decide +kernel
theorem d_Mo_disturb_7 : decode c_Mo_disturb 7 = .ok (.aload_n 0, 1) := by decide +kernel
theorem d_Mo_disturb_8 : decode c_Mo_disturb 8 = .ok (.getfield 133, 3) := by decide +kernel
theorem d_Mo_disturb_11 : decode c_Mo_disturb 11 = .ok (.iconst 1, 1) := by decide +kernel
theorem d_Mo_disturb_12 : decode c_Mo_disturb 12 = .ok (.iadd, 1) := by decide +kernel
theorem d_Mo_disturb_13 : decode c_Mo_disturb 13 = .ok (.aload_n 0, 1) := by decide +kernel
theorem d_Mo_disturb_14 : decode c_Mo_disturb 14 = .ok (.getfield 150, 3) := by decide +kernel
theorem d_Mo_disturb_17 : decode c_Mo_disturb 17 = .ok (.if_icmp .ge 30, 3) := by decide +kernel
theorem d_Mo_disturb_20 : decode c_Mo_disturb 20 = .ok (.aload_n 0, 1) := by decide +kernel
theorem d_Mo_disturb_21 : decode c_Mo_disturb 21 = .ok (.getfield 75, 3) := by decide +kernel
theorem d_Mo_disturb_24 : decode c_Mo_disturb 24 = .ok (.aload_n 0, 1) := by decide +kernel
theorem d_Mo_disturb_25 : decode c_Mo_disturb 25 = .ok (.getfield 133, 3) := by decide +kernel
theorem d_Mo_disturb_28 : decode c_Mo_disturb 28 = .ok (.iconst 1, 1) := by decide +kernel
theorem d_Mo_disturb_29 : decode c_Mo_disturb 29 = .ok (.iadd, 1) := by decide +kernel
theorem d_Mo_disturb_30 : decode c_Mo_disturb 30 = .ok (.aload_n 0, 1) := by decide +kernel
theorem d_Mo_disturb_31 : decode c_Mo_disturb 31 = .ok (.getfield 75, 3) := by decide +kernel
theorem d_Mo_disturb_34 : decode c_Mo_disturb 34 = .ok (.aload_n 0, 1) := by decide +kernel
theorem d_Mo_disturb_35 : decode c_Mo_disturb 35 = .ok (.getfield 133, 3) := by decide +kernel
theorem d_Mo_disturb_38 : decode c_Mo_disturb 38 = .ok (.iconst 1, 1) := by decide +kernel
theorem d_Mo_disturb_39 : decode c_Mo_disturb 39 = .ok (.iadd, 1) := by decide +kernel
theorem d_Mo_disturb_40 : decode c_Mo_disturb 40 = .ok (.iaload, 1) := by decide +kernel
theorem d_Mo_disturb_41 : decode c_Mo_disturb 41 = .ok (.aload_n 0, 1) := by decide +kernel
theorem d_Mo_disturb_42 : decode c_Mo_disturb 42 = .ok (.getfield 136, 3) := by decide +kernel
theorem d_Mo_disturb_45 : decode c_Mo_disturb 45 = .ok (.ixor, 1) := by decide +kernel
theorem d_Mo_disturb_46 : decode c_Mo_disturb 46 = .ok (.iastore, 1) := by decide +kernel
theorem d_Mo_disturb_47 : decode c_Mo_disturb 47 = .ok (.aload_n 0, 1) := by decide +kernel
theorem d_Mo_disturb_48 : decode c_Mo_disturb 48 = .ok (.iconst 0, 1) := by decide +kernel
theorem d_Mo_disturb_49 : decode c_Mo_disturb 49 = .ok (.putfield 130, 3) := by decide +kernel
theorem d_Mo_disturb_52 : decode c_Mo_disturb 52 = .ok (.return_, 1) := by decide +kernel
def t_Mo_disturb (zz : Nat × Nat) : List (Nat × mx_O) := [(0, o_aload 1 0),
  (1, o_get 10 36),
  (4, o_if 47 (fun x => x = 0)),
  (7, o_aload 1 0),
  (8, o_get 10 37),
  (11, o_push 1 (.int 1)),
  (12, o_ii (fun x y => x + y)),
  (13, o_aload 1 0),
  (14, o_get 10 34),
  (17, o_icmp 47 (fun x y => y ≤ x)),
  (20, o_aload 1 0),
  (21, o_get 10 35),
  (24, o_aload 1 0),
  (25, o_get 10 37),
  (28, o_push 1 (.int 1)),
  (29, o_ii (fun x y => x + y)),
  (30, o_aload 1 0),
  (31, o_get 10 35),
  (34, o_aload 1 0),
  (35, o_get 10 37),
  (38, o_push 1 (.int 1)),
  (39, o_ii (fun x y => x + y)),
  (40, o_iald .int),
  (41, o_aload 1 0),
  (42, o_get 10 38),
  (45, o_ii (fun x y => x ^^^ y)),
  (46, o_iast .int (fun x => x)),
  (47, o_aload 1 0),
  (48, o_push 1 (.int 0)),
  (49, o_put 10 36 mx_vZ),
  (52, o_vret)]
set_option maxRecDepth 100000 in
theorem tm_Mo_disturb (zz : Nat × Nat) : mx_All (fun _ o => mx_Mono o) (t_Mo_disturb zz) := by
  refine mx_all_cons (mo_st) ?_
  refine mx_all_cons (mo_st) ?_
  refine mx_all_cons (mo_br) ?_
  refine mx_all_cons (mo_st) ?_
  refine mx_all_cons (mo_st) ?_
  refine mx_all_cons (mo_st) ?_
  refine mx_all_cons (mo_st) ?_
  refine mx_all_cons (mo_st) ?_
  refine mx_all_cons (mo_st) ?_
  refine mx_all_cons (mo_br) ?_
  refine mx_all_cons (mo_st) ?_
  refine mx_all_cons (mo_st) ?_
  refine mx_all_cons (mo_st) ?_
  refine mx_all_cons (mo_st) ?_
  refine mx_all_cons (mo_st) ?_
  refine mx_all_cons (mo_st) ?_
  refine mx_all_cons (mo_st) ?_
  refine mx_all_cons (mo_st) ?_
  refine mx_all_cons (mo_st) ?_
  refine mx_all_cons (mo_st) ?_
  refine mx_all_cons (mo_st) ?_
  refine mx_all_cons (mo_st) ?_
  refine mx_all_cons (mo_sc) ?_
  refine mx_all_cons (mo_st) ?_
  refine mx_all_cons (mo_st) ?_
  refine mx_all_cons (mo_st) ?_
  refine mx_all_cons (mo_sc) ?_
  refine mx_all_cons (mo_st) ?_
  refine mx_all_cons (mo_st) ?_
  refine mx_all_cons (mo_sc) ?_
  refine mx_all_cons (mo_ret) ?_
  exact mx_all_nil
def S_Mo_disturb (zz : Nat × Nat) : mx_Sp := mx_S 1 0 0 (t_Mo_disturb zz)
theorem sm_Mo_disturb (zz : Nat × Nat) : mx_SMono (S_Mo_disturb zz) := mx_S_mono (tm_Mo_disturb zz)
abbrev rm_Mo_disturb : Room := { frames := 0, cells := 0, slots := 0, locals := 0 }
set_option maxHeartbeats 4000000 in
set_option maxRecDepth 100000 in
theorem m_Mo_disturb (l : Launch) (zz : Nat × Nat) : mx_Met l y_Mo_disturb (wsOf y_Mo_disturb c_Mo_disturb 1 none) rm_Mo_disturb wcl (mx_Z zz) 0 0 (S_Mo_disturb zz) := by
  refine mx_met (cc := c_Mo_disturb) (ret := none) (by decide) rfl ?_
  intro p e s m args below meth c D A Post X hz hr hlk hnm
  have hm : ∀ w ∈ mw, w.before args s = true := fun w h => X.1.2.2.2.2 w (List.mem_cons_of_mem _ h)
  refine mx_all_cons (ok_aload (fun hl kk => lv_aload_n X.1.1 X.1.2.1 d_Mo_disturb_0 rfl hl kk) (fun hl kk => lv_aload_nN X.1.1 X.1.2.1 d_Mo_disturb_0 rfl hl kk)) ?_
  refine mx_all_cons (ok_get (C := "HeaderScheduleModel") (T := T_Mo) (N := 40) X (mw_up in_Mo) rfl 36 (by decide) (hm _ w713) (fun _ h9 => h9) d_Mo_disturb_1) ?_
  refine mx_all_cons (ok_if (fun kt kf => lv_if_eq X.1.1 X.1.2.1 d_Mo_disturb_4 (by decide) kt kf)) ?_
  refine mx_all_cons (ok_aload (fun hl kk => lv_aload_n X.1.1 X.1.2.1 d_Mo_disturb_7 rfl hl kk) (fun hl kk => lv_aload_nN X.1.1 X.1.2.1 d_Mo_disturb_7 rfl hl kk)) ?_
  refine mx_all_cons (ok_get (C := "HeaderScheduleModel") (T := T_Mo) (N := 40) X (mw_up in_Mo) rfl 37 (by decide) (hm _ w714) (fun _ h9 => h9) d_Mo_disturb_8) ?_
  refine mx_all_cons (ok_push (fun kk => lv_iconst X.1.1 X.1.2.1 d_Mo_disturb_11 (by decide) kk)) ?_
  refine mx_all_cons (ok_ii (fun kk => lv_iadd X.1.1 X.1.2.1 d_Mo_disturb_12 kk)) ?_
  refine mx_all_cons (ok_aload (fun hl kk => lv_aload_n X.1.1 X.1.2.1 d_Mo_disturb_13 rfl hl kk) (fun hl kk => lv_aload_nN X.1.1 X.1.2.1 d_Mo_disturb_13 rfl hl kk)) ?_
  refine mx_all_cons (ok_get (C := "HeaderScheduleModel") (T := T_Mo) (N := 40) X (mw_up in_Mo) rfl 34 (by decide) (hm _ w711) (fun _ h9 => h9) d_Mo_disturb_14) ?_
  refine mx_all_cons (ok_icmp (fun kt kf => lv_icmp_ge X.1.1 X.1.2.1 d_Mo_disturb_17 (by decide) kt kf)) ?_
  refine mx_all_cons (ok_aload (fun hl kk => lv_aload_n X.1.1 X.1.2.1 d_Mo_disturb_20 rfl hl kk) (fun hl kk => lv_aload_nN X.1.1 X.1.2.1 d_Mo_disturb_20 rfl hl kk)) ?_
  refine mx_all_cons (ok_get (C := "HeaderScheduleModel") (T := T_Mo) (N := 40) X (mw_up in_Mo) rfl 35 (by decide) (hm _ w712) (fun _ h9 => h9) d_Mo_disturb_21) ?_
  refine mx_all_cons (ok_aload (fun hl kk => lv_aload_n X.1.1 X.1.2.1 d_Mo_disturb_24 rfl hl kk) (fun hl kk => lv_aload_nN X.1.1 X.1.2.1 d_Mo_disturb_24 rfl hl kk)) ?_
  refine mx_all_cons (ok_get (C := "HeaderScheduleModel") (T := T_Mo) (N := 40) X (mw_up in_Mo) rfl 37 (by decide) (hm _ w714) (fun _ h9 => h9) d_Mo_disturb_25) ?_
  refine mx_all_cons (ok_push (fun kk => lv_iconst X.1.1 X.1.2.1 d_Mo_disturb_28 (by decide) kk)) ?_
  refine mx_all_cons (ok_ii (fun kk => lv_iadd X.1.1 X.1.2.1 d_Mo_disturb_29 kk)) ?_
  refine mx_all_cons (ok_aload (fun hl kk => lv_aload_n X.1.1 X.1.2.1 d_Mo_disturb_30 rfl hl kk) (fun hl kk => lv_aload_nN X.1.1 X.1.2.1 d_Mo_disturb_30 rfl hl kk)) ?_
  refine mx_all_cons (ok_get (C := "HeaderScheduleModel") (T := T_Mo) (N := 40) X (mw_up in_Mo) rfl 35 (by decide) (hm _ w712) (fun _ h9 => h9) d_Mo_disturb_31) ?_
  refine mx_all_cons (ok_aload (fun hl kk => lv_aload_n X.1.1 X.1.2.1 d_Mo_disturb_34 rfl hl kk) (fun hl kk => lv_aload_nN X.1.1 X.1.2.1 d_Mo_disturb_34 rfl hl kk)) ?_
  refine mx_all_cons (ok_get (C := "HeaderScheduleModel") (T := T_Mo) (N := 40) X (mw_up in_Mo) rfl 37 (by decide) (hm _ w714) (fun _ h9 => h9) d_Mo_disturb_35) ?_
  refine mx_all_cons (ok_push (fun kk => lv_iconst X.1.1 X.1.2.1 d_Mo_disturb_38 (by decide) kk)) ?_
  refine mx_all_cons (ok_ii (fun kk => lv_iadd X.1.1 X.1.2.1 d_Mo_disturb_39 kk)) ?_
  refine mx_all_cons (ok_iald X d_Mo_disturb_40) ?_
  refine mx_all_cons (ok_aload (fun hl kk => lv_aload_n X.1.1 X.1.2.1 d_Mo_disturb_41 rfl hl kk) (fun hl kk => lv_aload_nN X.1.1 X.1.2.1 d_Mo_disturb_41 rfl hl kk)) ?_
  refine mx_all_cons (ok_get (C := "HeaderScheduleModel") (T := T_Mo) (N := 40) X (mw_up in_Mo) rfl 38 (by decide) (hm _ w715) (fun _ h9 => h9) d_Mo_disturb_42) ?_
  refine mx_all_cons (ok_ii (fun kk => lv_ixor X.1.1 X.1.2.1 d_Mo_disturb_45 kk)) ?_
  refine mx_all_cons (ok_iast X d_Mo_disturb_46) ?_
  refine mx_all_cons (ok_aload (fun hl kk => lv_aload_n X.1.1 X.1.2.1 d_Mo_disturb_47 rfl hl kk) (fun hl kk => lv_aload_nN X.1.1 X.1.2.1 d_Mo_disturb_47 rfl hl kk)) ?_
  refine mx_all_cons (ok_push (fun kk => lv_iconst X.1.1 X.1.2.1 d_Mo_disturb_48 (by decide) kk)) ?_
  refine mx_all_cons (ok_put (C := "HeaderScheduleModel") (T := T_Mo) (N := 40) X (mw_up in_Mo) ty_Mo tyok_Mo nm_Mo rfl 36 (by decide) (hm _ w713) (fun _ h9 => h9) rfl (tyok_Mo 36 (by decide)) mx_vZ_ok d_Mo_disturb_49) ?_
  refine mx_all_cons (ok_vret X hr hlk d_Mo_disturb_52) ?_
  exact mx_all_nil
theorem st_Mo_disturb_0 (zz : Nat × Nat) (r : mx_T) (ls : mx_L) (st : List Value) (h : mx_H) (c n : Nat) : mx_G r (t_Mo_disturb zz) 0 ls st h c n = (o_aload 1 0) r (mx_G r (t_Mo_disturb zz)) 0 ls st h c n := mx_G_eq (tm_Mo_disturb zz) r 0 ls st h c n
theorem st_Mo_disturb_1 (zz : Nat × Nat) (r : mx_T) (ls : mx_L) (st : List Value) (h : mx_H) (c n : Nat) : mx_G r (t_Mo_disturb zz) 1 ls st h c n = (o_get 10 36) r (mx_G r (t_Mo_disturb zz)) 1 ls st h c n := mx_G_eq (tm_Mo_disturb zz) r 1 ls st h c n
theorem st_Mo_disturb_4 (zz : Nat × Nat) (r : mx_T) (ls : mx_L) (st : List Value) (h : mx_H) (c n : Nat) : mx_G r (t_Mo_disturb zz) 4 ls st h c n = (o_if 47 (fun x => x = 0)) r (mx_G r (t_Mo_disturb zz)) 4 ls st h c n := mx_G_eq (tm_Mo_disturb zz) r 4 ls st h c n
theorem st_Mo_disturb_7 (zz : Nat × Nat) (r : mx_T) (ls : mx_L) (st : List Value) (h : mx_H) (c n : Nat) : mx_G r (t_Mo_disturb zz) 7 ls st h c n = (o_aload 1 0) r (mx_G r (t_Mo_disturb zz)) 7 ls st h c n := mx_G_eq (tm_Mo_disturb zz) r 7 ls st h c n
theorem st_Mo_disturb_8 (zz : Nat × Nat) (r : mx_T) (ls : mx_L) (st : List Value) (h : mx_H) (c n : Nat) : mx_G r (t_Mo_disturb zz) 8 ls st h c n = (o_get 10 37) r (mx_G r (t_Mo_disturb zz)) 8 ls st h c n := mx_G_eq (tm_Mo_disturb zz) r 8 ls st h c n
theorem st_Mo_disturb_11 (zz : Nat × Nat) (r : mx_T) (ls : mx_L) (st : List Value) (h : mx_H) (c n : Nat) : mx_G r (t_Mo_disturb zz) 11 ls st h c n = (o_push 1 (.int 1)) r (mx_G r (t_Mo_disturb zz)) 11 ls st h c n := mx_G_eq (tm_Mo_disturb zz) r 11 ls st h c n
theorem st_Mo_disturb_12 (zz : Nat × Nat) (r : mx_T) (ls : mx_L) (st : List Value) (h : mx_H) (c n : Nat) : mx_G r (t_Mo_disturb zz) 12 ls st h c n = (o_ii (fun x y => x + y)) r (mx_G r (t_Mo_disturb zz)) 12 ls st h c n := mx_G_eq (tm_Mo_disturb zz) r 12 ls st h c n
theorem st_Mo_disturb_13 (zz : Nat × Nat) (r : mx_T) (ls : mx_L) (st : List Value) (h : mx_H) (c n : Nat) : mx_G r (t_Mo_disturb zz) 13 ls st h c n = (o_aload 1 0) r (mx_G r (t_Mo_disturb zz)) 13 ls st h c n := mx_G_eq (tm_Mo_disturb zz) r 13 ls st h c n
theorem st_Mo_disturb_14 (zz : Nat × Nat) (r : mx_T) (ls : mx_L) (st : List Value) (h : mx_H) (c n : Nat) : mx_G r (t_Mo_disturb zz) 14 ls st h c n = (o_get 10 34) r (mx_G r (t_Mo_disturb zz)) 14 ls st h c n := mx_G_eq (tm_Mo_disturb zz) r 14 ls st h c n
theorem st_Mo_disturb_17 (zz : Nat × Nat) (r : mx_T) (ls : mx_L) (st : List Value) (h : mx_H) (c n : Nat) : mx_G r (t_Mo_disturb zz) 17 ls st h c n = (o_icmp 47 (fun x y => y ≤ x)) r (mx_G r (t_Mo_disturb zz)) 17 ls st h c n := mx_G_eq (tm_Mo_disturb zz) r 17 ls st h c n
theorem st_Mo_disturb_20 (zz : Nat × Nat) (r : mx_T) (ls : mx_L) (st : List Value) (h : mx_H) (c n : Nat) : mx_G r (t_Mo_disturb zz) 20 ls st h c n = (o_aload 1 0) r (mx_G r (t_Mo_disturb zz)) 20 ls st h c n := mx_G_eq (tm_Mo_disturb zz) r 20 ls st h c n
theorem st_Mo_disturb_21 (zz : Nat × Nat) (r : mx_T) (ls : mx_L) (st : List Value) (h : mx_H) (c n : Nat) : mx_G r (t_Mo_disturb zz) 21 ls st h c n = (o_get 10 35) r (mx_G r (t_Mo_disturb zz)) 21 ls st h c n := mx_G_eq (tm_Mo_disturb zz) r 21 ls st h c n
theorem st_Mo_disturb_24 (zz : Nat × Nat) (r : mx_T) (ls : mx_L) (st : List Value) (h : mx_H) (c n : Nat) : mx_G r (t_Mo_disturb zz) 24 ls st h c n = (o_aload 1 0) r (mx_G r (t_Mo_disturb zz)) 24 ls st h c n := mx_G_eq (tm_Mo_disturb zz) r 24 ls st h c n
theorem st_Mo_disturb_25 (zz : Nat × Nat) (r : mx_T) (ls : mx_L) (st : List Value) (h : mx_H) (c n : Nat) : mx_G r (t_Mo_disturb zz) 25 ls st h c n = (o_get 10 37) r (mx_G r (t_Mo_disturb zz)) 25 ls st h c n := mx_G_eq (tm_Mo_disturb zz) r 25 ls st h c n
theorem st_Mo_disturb_28 (zz : Nat × Nat) (r : mx_T) (ls : mx_L) (st : List Value) (h : mx_H) (c n : Nat) : mx_G r (t_Mo_disturb zz) 28 ls st h c n = (o_push 1 (.int 1)) r (mx_G r (t_Mo_disturb zz)) 28 ls st h c n := mx_G_eq (tm_Mo_disturb zz) r 28 ls st h c n
theorem st_Mo_disturb_29 (zz : Nat × Nat) (r : mx_T) (ls : mx_L) (st : List Value) (h : mx_H) (c n : Nat) : mx_G r (t_Mo_disturb zz) 29 ls st h c n = (o_ii (fun x y => x + y)) r (mx_G r (t_Mo_disturb zz)) 29 ls st h c n := mx_G_eq (tm_Mo_disturb zz) r 29 ls st h c n
theorem st_Mo_disturb_30 (zz : Nat × Nat) (r : mx_T) (ls : mx_L) (st : List Value) (h : mx_H) (c n : Nat) : mx_G r (t_Mo_disturb zz) 30 ls st h c n = (o_aload 1 0) r (mx_G r (t_Mo_disturb zz)) 30 ls st h c n := mx_G_eq (tm_Mo_disturb zz) r 30 ls st h c n
theorem st_Mo_disturb_31 (zz : Nat × Nat) (r : mx_T) (ls : mx_L) (st : List Value) (h : mx_H) (c n : Nat) : mx_G r (t_Mo_disturb zz) 31 ls st h c n = (o_get 10 35) r (mx_G r (t_Mo_disturb zz)) 31 ls st h c n := mx_G_eq (tm_Mo_disturb zz) r 31 ls st h c n
theorem st_Mo_disturb_34 (zz : Nat × Nat) (r : mx_T) (ls : mx_L) (st : List Value) (h : mx_H) (c n : Nat) : mx_G r (t_Mo_disturb zz) 34 ls st h c n = (o_aload 1 0) r (mx_G r (t_Mo_disturb zz)) 34 ls st h c n := mx_G_eq (tm_Mo_disturb zz) r 34 ls st h c n
theorem st_Mo_disturb_35 (zz : Nat × Nat) (r : mx_T) (ls : mx_L) (st : List Value) (h : mx_H) (c n : Nat) : mx_G r (t_Mo_disturb zz) 35 ls st h c n = (o_get 10 37) r (mx_G r (t_Mo_disturb zz)) 35 ls st h c n := mx_G_eq (tm_Mo_disturb zz) r 35 ls st h c n
theorem st_Mo_disturb_38 (zz : Nat × Nat) (r : mx_T) (ls : mx_L) (st : List Value) (h : mx_H) (c n : Nat) : mx_G r (t_Mo_disturb zz) 38 ls st h c n = (o_push 1 (.int 1)) r (mx_G r (t_Mo_disturb zz)) 38 ls st h c n := mx_G_eq (tm_Mo_disturb zz) r 38 ls st h c n
theorem st_Mo_disturb_39 (zz : Nat × Nat) (r : mx_T) (ls : mx_L) (st : List Value) (h : mx_H) (c n : Nat) : mx_G r (t_Mo_disturb zz) 39 ls st h c n = (o_ii (fun x y => x + y)) r (mx_G r (t_Mo_disturb zz)) 39 ls st h c n := mx_G_eq (tm_Mo_disturb zz) r 39 ls st h c n
theorem st_Mo_disturb_40 (zz : Nat × Nat) (r : mx_T) (ls : mx_L) (st : List Value) (h : mx_H) (c n : Nat) : mx_G r (t_Mo_disturb zz) 40 ls st h c n = (o_iald .int) r (mx_G r (t_Mo_disturb zz)) 40 ls st h c n := mx_G_eq (tm_Mo_disturb zz) r 40 ls st h c n
theorem st_Mo_disturb_41 (zz : Nat × Nat) (r : mx_T) (ls : mx_L) (st : List Value) (h : mx_H) (c n : Nat) : mx_G r (t_Mo_disturb zz) 41 ls st h c n = (o_aload 1 0) r (mx_G r (t_Mo_disturb zz)) 41 ls st h c n := mx_G_eq (tm_Mo_disturb zz) r 41 ls st h c n
theorem st_Mo_disturb_42 (zz : Nat × Nat) (r : mx_T) (ls : mx_L) (st : List Value) (h : mx_H) (c n : Nat) : mx_G r (t_Mo_disturb zz) 42 ls st h c n = (o_get 10 38) r (mx_G r (t_Mo_disturb zz)) 42 ls st h c n := mx_G_eq (tm_Mo_disturb zz) r 42 ls st h c n
theorem st_Mo_disturb_45 (zz : Nat × Nat) (r : mx_T) (ls : mx_L) (st : List Value) (h : mx_H) (c n : Nat) : mx_G r (t_Mo_disturb zz) 45 ls st h c n = (o_ii (fun x y => x ^^^ y)) r (mx_G r (t_Mo_disturb zz)) 45 ls st h c n := mx_G_eq (tm_Mo_disturb zz) r 45 ls st h c n
theorem st_Mo_disturb_46 (zz : Nat × Nat) (r : mx_T) (ls : mx_L) (st : List Value) (h : mx_H) (c n : Nat) : mx_G r (t_Mo_disturb zz) 46 ls st h c n = (o_iast .int (fun x => x)) r (mx_G r (t_Mo_disturb zz)) 46 ls st h c n := mx_G_eq (tm_Mo_disturb zz) r 46 ls st h c n
theorem st_Mo_disturb_47 (zz : Nat × Nat) (r : mx_T) (ls : mx_L) (st : List Value) (h : mx_H) (c n : Nat) : mx_G r (t_Mo_disturb zz) 47 ls st h c n = (o_aload 1 0) r (mx_G r (t_Mo_disturb zz)) 47 ls st h c n := mx_G_eq (tm_Mo_disturb zz) r 47 ls st h c n
theorem st_Mo_disturb_48 (zz : Nat × Nat) (r : mx_T) (ls : mx_L) (st : List Value) (h : mx_H) (c n : Nat) : mx_G r (t_Mo_disturb zz) 48 ls st h c n = (o_push 1 (.int 0)) r (mx_G r (t_Mo_disturb zz)) 48 ls st h c n := mx_G_eq (tm_Mo_disturb zz) r 48 ls st h c n
theorem st_Mo_disturb_49 (zz : Nat × Nat) (r : mx_T) (ls : mx_L) (st : List Value) (h : mx_H) (c n : Nat) : mx_G r (t_Mo_disturb zz) 49 ls st h c n = (o_put 10 36 mx_vZ) r (mx_G r (t_Mo_disturb zz)) 49 ls st h c n := mx_G_eq (tm_Mo_disturb zz) r 49 ls st h c n
theorem st_Mo_disturb_52 (zz : Nat × Nat) (r : mx_T) (ls : mx_L) (st : List Value) (h : mx_H) (c n : Nat) : mx_G r (t_Mo_disturb zz) 52 ls st h c n = (o_vret) r (mx_G r (t_Mo_disturb zz)) 52 ls st h c n := mx_G_eq (tm_Mo_disturb zz) r 52 ls st h c n
theorem d_Mo_sound_0 : decode c_Mo_sound 0 = .ok (.aload_n 0, 1) := by decide +kernel
theorem d_Mo_sound_1 : decode c_Mo_sound 1 = .ok (.getfield 150, 3) := by decide +kernel
theorem d_Mo_sound_4 : decode c_Mo_sound 4 = .ok (.iload_n 1, 1) := by decide +kernel
theorem d_Mo_sound_5 : decode c_Mo_sound 5 = .ok (.iconst 2, 1) := by decide +kernel
theorem d_Mo_sound_6 : decode c_Mo_sound 6 = .ok (.iadd, 1) := by decide +kernel
theorem d_Mo_sound_7 : decode c_Mo_sound 7 = .ok (.if_icmp .eq 5, 3) := by decide +kernel
theorem d_Mo_sound_10 : decode c_Mo_sound 10 = .ok (.iconst 0, 1) := by decide +kernel
theorem d_Mo_sound_11 : decode c_Mo_sound 11 = .ok (.ireturn, 1) := by decide +kernel
theorem d_Mo_sound_12 : decode c_Mo_sound 12 = .ok (.iload_n 2, 1) := by decide +kernel
theorem d_Mo_sound_13 : decode c_Mo_sound 13 = .ok (.ifCond .eq 12, 3) := by decide +kernel
theorem d_Mo_sound_16 : decode c_Mo_sound 16 = .ok (.aload_n 0, 1) := by decide +kernel
theorem d_Mo_sound_17 : decode c_Mo_sound 17 = .ok (.getfield 75, 3) := by decide +kernel
theorem d_Mo_sound_20 : decode c_Mo_sound 20 = .ok (.iconst 0, 1) := by decide +kernel
theorem d_Mo_sound_21 : decode c_Mo_sound 21 = .ok (.iaload, 1) := by decide +kernel
theorem d_Mo_sound_22 : decode c_Mo_sound 22 = .ok (.goto 4, 3) := by decide +kernel
theorem d_Mo_sound_25 : decode c_Mo_sound 25 = .ok (.iconst 0, 1) := by decide +kernel
theorem d_Mo_sound_26 : decode c_Mo_sound 26 = .ok (.istore_n 3, 1) := by decide +kernel
theorem d_Mo_sound_27 : decode c_Mo_sound 27 = .ok (.iconst 1, 1) := by decide +kernel
theorem d_Mo_sound_28 : decode c_Mo_sound 28 = .ok (.istore 4, 2) := by decide +kernel
theorem d_Mo_sound_30 : decode c_Mo_sound 30 = .ok (.iload 4, 2) := by decide +kernel
theorem d_Mo_sound_32 : decode c_Mo_sound 32 = .ok (.iload_n 1, 1) := by decide +kernel
theorem d_Mo_sound_33 : decode c_Mo_sound 33 = .ok (.if_icmp .gt 19, 3) := by decide +kernel
theorem d_Mo_sound_36 : decode c_Mo_sound 36 = .ok (.iload_n 3, 1) := by decide +kernel
theorem d_Mo_sound_37 : decode c_Mo_sound 37 = .ok (.aload_n 0, 1) := by decide +kernel
theorem d_Mo_sound_38 : decode c_Mo_sound 38 = .ok (.getfield 75, 3) := by decide +kernel
theorem d_Mo_sound_41 : decode c_Mo_sound 41 = .ok (.iload 4, 2) := by decide +kernel
theorem d_Mo_sound_43 : decode c_Mo_sound 43 = .ok (.iaload, 1) := by decide +kernel
theorem d_Mo_sound_44 : decode c_Mo_sound 44 = .ok (.iadd, 1) := by decide +kernel
theorem d_Mo_sound_45 : decode c_Mo_sound 45 = .ok (.istore_n 3, 1) := by decide +kernel
theorem d_Mo_sound_46 : decode c_Mo_sound 46 = .ok (.iinc 4 1, 3) := by decide +kernel
theorem d_Mo_sound_49 : decode c_Mo_sound 49 = .ok (.goto (-19), 3) := by decide +kernel
theorem d_Mo_sound_52 : decode c_Mo_sound 52 = .ok (.iload_n 3, 1) := by decide +kernel
theorem d_Mo_sound_53 : decode c_Mo_sound 53 = .ok (.invokestatic 153, 3) := by decide +kernel
theorem d_Mo_sound_56 : decode c_Mo_sound 56 = .ok (.aload_n 0, 1) := by decide +kernel
theorem d_Mo_sound_57 : decode c_Mo_sound 57 = .ok (.getfield 75, 3) := by decide +kernel
theorem d_Mo_sound_60 : decode c_Mo_sound 60 = .ok (.iload_n 1, 1) := by decide +kernel
theorem d_Mo_sound_61 : decode c_Mo_sound 61 = .ok (.iconst 1, 1) := by decide +kernel
theorem d_Mo_sound_62 : decode c_Mo_sound 62 = .ok (.iadd, 1) := by decide +kernel
theorem d_Mo_sound_63 : decode c_Mo_sound 63 = .ok (.iaload, 1) := by decide +kernel
theorem d_Mo_sound_64 : decode c_Mo_sound 64 = .ok (.if_icmp .ne 7, 3) := by decide +kernel
theorem d_Mo_sound_67 : decode c_Mo_sound 67 = .ok (.iconst 1, 1) := by decide +kernel
theorem d_Mo_sound_68 : decode c_Mo_sound 68 = .ok (.goto 4, 3) := by decide +kernel
theorem d_Mo_sound_71 : decode c_Mo_sound 71 = .ok (.iconst 0, 1) := by decide +kernel
theorem d_Mo_sound_72 : decode c_Mo_sound 72 = .ok (.ireturn, 1) := by decide +kernel
def t_Mo_sound (zz : Nat × Nat) : List (Nat × mx_O) := [(0, o_aload 1 0),
  (1, o_get 10 34),
  (4, o_iload 1 1),
  (5, o_push 1 (.int 2)),
  (6, o_ii (fun x y => x + y)),
  (7, o_icmp 12 (fun x y => x = y)),
  (10, o_push 1 (.int 0)),
  (11, o_zret),
  (12, o_iload 1 2),
  (13, o_if 25 (fun x => x = 0)),
  (16, o_aload 1 0),
  (17, o_get 10 35),
  (20, o_push 1 (.int 0)),
  (21, o_iald .int),
  (22, o_goto 26),
  (25, o_push 1 (.int 0)),
  (26, o_istore 1 3),
  (27, o_push 1 (.int 1)),
  (28, o_istore 2 4),
  (30, o_iload 2 4),
  (32, o_iload 1 1),
  (33, o_icmp 52 (fun x y => y < x)),
  (36, o_iload 1 3),
  (37, o_aload 1 0),
  (38, o_get 10 35),
  (41, o_iload 2 4),
  (43, o_iald .int),
  (44, o_ii (fun x y => x + y)),
  (45, o_istore 1 3),
  (46, o_iinc 4 1),
  (49, o_goto 30),
  (52, o_iload 1 3),
  (53, o_call 0 0 1 0 0 (fun _ _ => True) (S_Mo_check zz)),
  (56, o_aload 1 0),
  (57, o_get 10 35),
  (60, o_iload 1 1),
  (61, o_push 1 (.int 1)),
  (62, o_ii (fun x y => x + y)),
  (63, o_iald .int),
  (64, o_icmp 71 (fun x y => ¬ x = y)),
  (67, o_push 1 (.int 1)),
  (68, o_goto 72),
  (71, o_push 1 (.int 0)),
  (72, o_zret)]
set_option maxRecDepth 100000 in
theorem tm_Mo_sound (zz : Nat × Nat) : mx_All (fun _ o => mx_Mono o) (t_Mo_sound zz) := by
  refine mx_all_cons (mo_st) ?_
  refine mx_all_cons (mo_st) ?_
  refine mx_all_cons (mo_st) ?_
  refine mx_all_cons (mo_st) ?_
  refine mx_all_cons (mo_st) ?_
  refine mx_all_cons (mo_br) ?_
  refine mx_all_cons (mo_st) ?_
  refine mx_all_cons (mo_zret) ?_
  refine mx_all_cons (mo_st) ?_
  refine mx_all_cons (mo_br) ?_
  refine mx_all_cons (mo_st) ?_
  refine mx_all_cons (mo_st) ?_
  refine mx_all_cons (mo_st) ?_
  refine mx_all_cons (mo_sc) ?_
  refine mx_all_cons (mo_st) ?_
  refine mx_all_cons (mo_st) ?_
  refine mx_all_cons (mo_st) ?_
  refine mx_all_cons (mo_st) ?_
  refine mx_all_cons (mo_st) ?_
  refine mx_all_cons (mo_st) ?_
  refine mx_all_cons (mo_st) ?_
  refine mx_all_cons (mo_br) ?_
  refine mx_all_cons (mo_st) ?_
  refine mx_all_cons (mo_st) ?_
  refine mx_all_cons (mo_st) ?_
  refine mx_all_cons (mo_st) ?_
  refine mx_all_cons (mo_sc) ?_
  refine mx_all_cons (mo_st) ?_
  refine mx_all_cons (mo_st) ?_
  refine mx_all_cons (mo_st) ?_
  refine mx_all_cons (mo_st) ?_
  refine mx_all_cons (mo_st) ?_
  refine mx_all_cons (mo_call (sm_Mo_check zz)) ?_
  refine mx_all_cons (mo_st) ?_
  refine mx_all_cons (mo_st) ?_
  refine mx_all_cons (mo_st) ?_
  refine mx_all_cons (mo_st) ?_
  refine mx_all_cons (mo_st) ?_
  refine mx_all_cons (mo_sc) ?_
  refine mx_all_cons (mo_br) ?_
  refine mx_all_cons (mo_st) ?_
  refine mx_all_cons (mo_st) ?_
  refine mx_all_cons (mo_st) ?_
  refine mx_all_cons (mo_zret) ?_
  exact mx_all_nil
def S_Mo_sound (zz : Nat × Nat) : mx_Sp := mx_S 5 0 0 (t_Mo_sound zz)
theorem sm_Mo_sound (zz : Nat × Nat) : mx_SMono (S_Mo_sound zz) := mx_S_mono (tm_Mo_sound zz)
abbrev rm_Mo_sound : Room := { frames := 1, cells := 0, slots := 0, locals := 20 }
set_option maxHeartbeats 4000000 in
set_option maxRecDepth 100000 in
theorem m_Mo_sound (l : Launch) (zz : Nat × Nat) : mx_Met l y_Mo_sound (wsOf y_Mo_sound c_Mo_sound 5 (some .boolean)) rm_Mo_sound wcl (mx_Z zz) 0 0 (S_Mo_sound zz) := by
  refine mx_met (cc := c_Mo_sound) (ret := (some .boolean)) (by decide) rfl ?_
  intro p e s m args below meth c D A Post X hz hr hlk hnm
  have hm : ∀ w ∈ mw, w.before args s = true := fun w h => X.1.2.2.2.2 w (List.mem_cons_of_mem _ h)
  refine mx_all_cons (ok_aload (fun hl kk => lv_aload_n X.1.1 X.1.2.1 d_Mo_sound_0 rfl hl kk) (fun hl kk => lv_aload_nN X.1.1 X.1.2.1 d_Mo_sound_0 rfl hl kk)) ?_
  refine mx_all_cons (ok_get (C := "HeaderScheduleModel") (T := T_Mo) (N := 40) X (mw_up in_Mo) rfl 34 (by decide) (hm _ w711) (fun _ h9 => h9) d_Mo_sound_1) ?_
  refine mx_all_cons (ok_iload (fun hl kk => lv_iload_n X.1.1 X.1.2.1 d_Mo_sound_4 rfl hl kk)) ?_
  refine mx_all_cons (ok_push (fun kk => lv_iconst X.1.1 X.1.2.1 d_Mo_sound_5 (by decide) kk)) ?_
  refine mx_all_cons (ok_ii (fun kk => lv_iadd X.1.1 X.1.2.1 d_Mo_sound_6 kk)) ?_
  refine mx_all_cons (ok_icmp (fun kt kf => lv_icmp_eq X.1.1 X.1.2.1 d_Mo_sound_7 (by decide) kt kf)) ?_
  refine mx_all_cons (ok_push (fun kk => lv_iconst X.1.1 X.1.2.1 d_Mo_sound_10 (by decide) kk)) ?_
  refine mx_all_cons (ok_zret X hr hlk d_Mo_sound_11) ?_
  refine mx_all_cons (ok_iload (fun hl kk => lv_iload_n X.1.1 X.1.2.1 d_Mo_sound_12 rfl hl kk)) ?_
  refine mx_all_cons (ok_if (fun kt kf => lv_if_eq X.1.1 X.1.2.1 d_Mo_sound_13 (by decide) kt kf)) ?_
  refine mx_all_cons (ok_aload (fun hl kk => lv_aload_n X.1.1 X.1.2.1 d_Mo_sound_16 rfl hl kk) (fun hl kk => lv_aload_nN X.1.1 X.1.2.1 d_Mo_sound_16 rfl hl kk)) ?_
  refine mx_all_cons (ok_get (C := "HeaderScheduleModel") (T := T_Mo) (N := 40) X (mw_up in_Mo) rfl 35 (by decide) (hm _ w712) (fun _ h9 => h9) d_Mo_sound_17) ?_
  refine mx_all_cons (ok_push (fun kk => lv_iconst X.1.1 X.1.2.1 d_Mo_sound_20 (by decide) kk)) ?_
  refine mx_all_cons (ok_iald X d_Mo_sound_21) ?_
  refine mx_all_cons (ok_goto X d_Mo_sound_22 (by decide)) ?_
  refine mx_all_cons (ok_push (fun kk => lv_iconst X.1.1 X.1.2.1 d_Mo_sound_25 (by decide) kk)) ?_
  refine mx_all_cons (ok_istore (fun hl kk => lv_istore_n X.1.1 X.1.2.1 d_Mo_sound_26 rfl hl (by decide) rfl kk)) ?_
  refine mx_all_cons (ok_push (fun kk => lv_iconst X.1.1 X.1.2.1 d_Mo_sound_27 (by decide) kk)) ?_
  refine mx_all_cons (ok_istore (fun hl kk => lv_istore X.1.1 X.1.2.1 d_Mo_sound_28 hl (by decide) rfl kk)) ?_
  refine mx_all_cons (ok_iload (fun hl kk => lv_iload X.1.1 X.1.2.1 d_Mo_sound_30 hl kk)) ?_
  refine mx_all_cons (ok_iload (fun hl kk => lv_iload_n X.1.1 X.1.2.1 d_Mo_sound_32 rfl hl kk)) ?_
  refine mx_all_cons (ok_icmp (fun kt kf => lv_icmp_gt X.1.1 X.1.2.1 d_Mo_sound_33 (by decide) kt kf)) ?_
  refine mx_all_cons (ok_iload (fun hl kk => lv_iload_n X.1.1 X.1.2.1 d_Mo_sound_36 rfl hl kk)) ?_
  refine mx_all_cons (ok_aload (fun hl kk => lv_aload_n X.1.1 X.1.2.1 d_Mo_sound_37 rfl hl kk) (fun hl kk => lv_aload_nN X.1.1 X.1.2.1 d_Mo_sound_37 rfl hl kk)) ?_
  refine mx_all_cons (ok_get (C := "HeaderScheduleModel") (T := T_Mo) (N := 40) X (mw_up in_Mo) rfl 35 (by decide) (hm _ w712) (fun _ h9 => h9) d_Mo_sound_38) ?_
  refine mx_all_cons (ok_iload (fun hl kk => lv_iload X.1.1 X.1.2.1 d_Mo_sound_41 hl kk)) ?_
  refine mx_all_cons (ok_iald X d_Mo_sound_43) ?_
  refine mx_all_cons (ok_ii (fun kk => lv_iadd X.1.1 X.1.2.1 d_Mo_sound_44 kk)) ?_
  refine mx_all_cons (ok_istore (fun hl kk => lv_istore_n X.1.1 X.1.2.1 d_Mo_sound_45 rfl hl (by decide) rfl kk)) ?_
  refine mx_all_cons (ok_iinc X (by decide) (by decide) d_Mo_sound_46) ?_
  refine mx_all_cons (ok_goto X d_Mo_sound_49 (by decide)) ?_
  refine mx_all_cons (ok_iload (fun hl kk => lv_iload_n X.1.1 X.1.2.1 d_Mo_sound_52 rfl hl kk)) ?_
  refine mx_all_cons (ok_callS X (mx_Zok_Z zz) hz ⟨(Nat.le_of_ble_eq_true rfl), (Nat.le_of_ble_eq_true rfl)⟩ (m_Mo_check l zz) ⟨mx_cwB 1 hm w905 w903 w40 rfl rfl (by decide +kernel) ⟨(Nat.le_of_ble_eq_true rfl), (Nat.le_of_ble_eq_true rfl)⟩, (hm _ w904)⟩ d_Mo_sound_53) ?_
  refine mx_all_cons (ok_aload (fun hl kk => lv_aload_n X.1.1 X.1.2.1 d_Mo_sound_56 rfl hl kk) (fun hl kk => lv_aload_nN X.1.1 X.1.2.1 d_Mo_sound_56 rfl hl kk)) ?_
  refine mx_all_cons (ok_get (C := "HeaderScheduleModel") (T := T_Mo) (N := 40) X (mw_up in_Mo) rfl 35 (by decide) (hm _ w712) (fun _ h9 => h9) d_Mo_sound_57) ?_
  refine mx_all_cons (ok_iload (fun hl kk => lv_iload_n X.1.1 X.1.2.1 d_Mo_sound_60 rfl hl kk)) ?_
  refine mx_all_cons (ok_push (fun kk => lv_iconst X.1.1 X.1.2.1 d_Mo_sound_61 (by decide) kk)) ?_
  refine mx_all_cons (ok_ii (fun kk => lv_iadd X.1.1 X.1.2.1 d_Mo_sound_62 kk)) ?_
  refine mx_all_cons (ok_iald X d_Mo_sound_63) ?_
  refine mx_all_cons (ok_icmp (fun kt kf => lv_icmp_ne X.1.1 X.1.2.1 d_Mo_sound_64 (by decide) kt (fun z => kf (fun g => g z)))) ?_
  refine mx_all_cons (ok_push (fun kk => lv_iconst X.1.1 X.1.2.1 d_Mo_sound_67 (by decide) kk)) ?_
  refine mx_all_cons (ok_goto X d_Mo_sound_68 (by decide)) ?_
  refine mx_all_cons (ok_push (fun kk => lv_iconst X.1.1 X.1.2.1 d_Mo_sound_71 (by decide) kk)) ?_
  refine mx_all_cons (ok_zret X hr hlk d_Mo_sound_72) ?_
  exact mx_all_nil
theorem st_Mo_sound_0 (zz : Nat × Nat) (r : mx_T) (ls : mx_L) (st : List Value) (h : mx_H) (c n : Nat) : mx_G r (t_Mo_sound zz) 0 ls st h c n = (o_aload 1 0) r (mx_G r (t_Mo_sound zz)) 0 ls st h c n := mx_G_eq (tm_Mo_sound zz) r 0 ls st h c n
theorem st_Mo_sound_1 (zz : Nat × Nat) (r : mx_T) (ls : mx_L) (st : List Value) (h : mx_H) (c n : Nat) : mx_G r (t_Mo_sound zz) 1 ls st h c n = (o_get 10 34) r (mx_G r (t_Mo_sound zz)) 1 ls st h c n := mx_G_eq (tm_Mo_sound zz) r 1 ls st h c n
theorem st_Mo_sound_4 (zz : Nat × Nat) (r : mx_T) (ls : mx_L) (st : List Value) (h : mx_H) (c n : Nat) : mx_G r (t_Mo_sound zz) 4 ls st h c n = (o_iload 1 1) r (mx_G r (t_Mo_sound zz)) 4 ls st h c n := mx_G_eq (tm_Mo_sound zz) r 4 ls st h c n
theorem st_Mo_sound_5 (zz : Nat × Nat) (r : mx_T) (ls : mx_L) (st : List Value) (h : mx_H) (c n : Nat) : mx_G r (t_Mo_sound zz) 5 ls st h c n = (o_push 1 (.int 2)) r (mx_G r (t_Mo_sound zz)) 5 ls st h c n := mx_G_eq (tm_Mo_sound zz) r 5 ls st h c n
theorem st_Mo_sound_6 (zz : Nat × Nat) (r : mx_T) (ls : mx_L) (st : List Value) (h : mx_H) (c n : Nat) : mx_G r (t_Mo_sound zz) 6 ls st h c n = (o_ii (fun x y => x + y)) r (mx_G r (t_Mo_sound zz)) 6 ls st h c n := mx_G_eq (tm_Mo_sound zz) r 6 ls st h c n
theorem st_Mo_sound_7 (zz : Nat × Nat) (r : mx_T) (ls : mx_L) (st : List Value) (h : mx_H) (c n : Nat) : mx_G r (t_Mo_sound zz) 7 ls st h c n = (o_icmp 12 (fun x y => x = y)) r (mx_G r (t_Mo_sound zz)) 7 ls st h c n := mx_G_eq (tm_Mo_sound zz) r 7 ls st h c n
theorem st_Mo_sound_10 (zz : Nat × Nat) (r : mx_T) (ls : mx_L) (st : List Value) (h : mx_H) (c n : Nat) : mx_G r (t_Mo_sound zz) 10 ls st h c n = (o_push 1 (.int 0)) r (mx_G r (t_Mo_sound zz)) 10 ls st h c n := mx_G_eq (tm_Mo_sound zz) r 10 ls st h c n
theorem st_Mo_sound_11 (zz : Nat × Nat) (r : mx_T) (ls : mx_L) (st : List Value) (h : mx_H) (c n : Nat) : mx_G r (t_Mo_sound zz) 11 ls st h c n = (o_zret) r (mx_G r (t_Mo_sound zz)) 11 ls st h c n := mx_G_eq (tm_Mo_sound zz) r 11 ls st h c n
theorem st_Mo_sound_12 (zz : Nat × Nat) (r : mx_T) (ls : mx_L) (st : List Value) (h : mx_H) (c n : Nat) : mx_G r (t_Mo_sound zz) 12 ls st h c n = (o_iload 1 2) r (mx_G r (t_Mo_sound zz)) 12 ls st h c n := mx_G_eq (tm_Mo_sound zz) r 12 ls st h c n
theorem st_Mo_sound_13 (zz : Nat × Nat) (r : mx_T) (ls : mx_L) (st : List Value) (h : mx_H) (c n : Nat) : mx_G r (t_Mo_sound zz) 13 ls st h c n = (o_if 25 (fun x => x = 0)) r (mx_G r (t_Mo_sound zz)) 13 ls st h c n := mx_G_eq (tm_Mo_sound zz) r 13 ls st h c n
theorem st_Mo_sound_16 (zz : Nat × Nat) (r : mx_T) (ls : mx_L) (st : List Value) (h : mx_H) (c n : Nat) : mx_G r (t_Mo_sound zz) 16 ls st h c n = (o_aload 1 0) r (mx_G r (t_Mo_sound zz)) 16 ls st h c n := mx_G_eq (tm_Mo_sound zz) r 16 ls st h c n
theorem st_Mo_sound_17 (zz : Nat × Nat) (r : mx_T) (ls : mx_L) (st : List Value) (h : mx_H) (c n : Nat) : mx_G r (t_Mo_sound zz) 17 ls st h c n = (o_get 10 35) r (mx_G r (t_Mo_sound zz)) 17 ls st h c n := mx_G_eq (tm_Mo_sound zz) r 17 ls st h c n
theorem st_Mo_sound_20 (zz : Nat × Nat) (r : mx_T) (ls : mx_L) (st : List Value) (h : mx_H) (c n : Nat) : mx_G r (t_Mo_sound zz) 20 ls st h c n = (o_push 1 (.int 0)) r (mx_G r (t_Mo_sound zz)) 20 ls st h c n := mx_G_eq (tm_Mo_sound zz) r 20 ls st h c n
theorem st_Mo_sound_21 (zz : Nat × Nat) (r : mx_T) (ls : mx_L) (st : List Value) (h : mx_H) (c n : Nat) : mx_G r (t_Mo_sound zz) 21 ls st h c n = (o_iald .int) r (mx_G r (t_Mo_sound zz)) 21 ls st h c n := mx_G_eq (tm_Mo_sound zz) r 21 ls st h c n
theorem st_Mo_sound_22 (zz : Nat × Nat) (r : mx_T) (ls : mx_L) (st : List Value) (h : mx_H) (c n : Nat) : mx_G r (t_Mo_sound zz) 22 ls st h c n = (o_goto 26) r (mx_G r (t_Mo_sound zz)) 22 ls st h c n := mx_G_eq (tm_Mo_sound zz) r 22 ls st h c n
theorem st_Mo_sound_25 (zz : Nat × Nat) (r : mx_T) (ls : mx_L) (st : List Value) (h : mx_H) (c n : Nat) : mx_G r (t_Mo_sound zz) 25 ls st h c n = (o_push 1 (.int 0)) r (mx_G r (t_Mo_sound zz)) 25 ls st h c n := mx_G_eq (tm_Mo_sound zz) r 25 ls st h c n
theorem st_Mo_sound_26 (zz : Nat × Nat) (r : mx_T) (ls : mx_L) (st : List Value) (h : mx_H) (c n : Nat) : mx_G r (t_Mo_sound zz) 26 ls st h c n = (o_istore 1 3) r (mx_G r (t_Mo_sound zz)) 26 ls st h c n := mx_G_eq (tm_Mo_sound zz) r 26 ls st h c n
theorem st_Mo_sound_27 (zz : Nat × Nat) (r : mx_T) (ls : mx_L) (st : List Value) (h : mx_H) (c n : Nat) : mx_G r (t_Mo_sound zz) 27 ls st h c n = (o_push 1 (.int 1)) r (mx_G r (t_Mo_sound zz)) 27 ls st h c n := mx_G_eq (tm_Mo_sound zz) r 27 ls st h c n
theorem st_Mo_sound_28 (zz : Nat × Nat) (r : mx_T) (ls : mx_L) (st : List Value) (h : mx_H) (c n : Nat) : mx_G r (t_Mo_sound zz) 28 ls st h c n = (o_istore 2 4) r (mx_G r (t_Mo_sound zz)) 28 ls st h c n := mx_G_eq (tm_Mo_sound zz) r 28 ls st h c n
theorem st_Mo_sound_30 (zz : Nat × Nat) (r : mx_T) (ls : mx_L) (st : List Value) (h : mx_H) (c n : Nat) : mx_G r (t_Mo_sound zz) 30 ls st h c n = (o_iload 2 4) r (mx_G r (t_Mo_sound zz)) 30 ls st h c n := mx_G_eq (tm_Mo_sound zz) r 30 ls st h c n
theorem st_Mo_sound_32 (zz : Nat × Nat) (r : mx_T) (ls : mx_L) (st : List Value) (h : mx_H) (c n : Nat) : mx_G r (t_Mo_sound zz) 32 ls st h c n = (o_iload 1 1) r (mx_G r (t_Mo_sound zz)) 32 ls st h c n := mx_G_eq (tm_Mo_sound zz) r 32 ls st h c n
theorem st_Mo_sound_33 (zz : Nat × Nat) (r : mx_T) (ls : mx_L) (st : List Value) (h : mx_H) (c n : Nat) : mx_G r (t_Mo_sound zz) 33 ls st h c n = (o_icmp 52 (fun x y => y < x)) r (mx_G r (t_Mo_sound zz)) 33 ls st h c n := mx_G_eq (tm_Mo_sound zz) r 33 ls st h c n
theorem st_Mo_sound_36 (zz : Nat × Nat) (r : mx_T) (ls : mx_L) (st : List Value) (h : mx_H) (c n : Nat) : mx_G r (t_Mo_sound zz) 36 ls st h c n = (o_iload 1 3) r (mx_G r (t_Mo_sound zz)) 36 ls st h c n := mx_G_eq (tm_Mo_sound zz) r 36 ls st h c n
theorem st_Mo_sound_37 (zz : Nat × Nat) (r : mx_T) (ls : mx_L) (st : List Value) (h : mx_H) (c n : Nat) : mx_G r (t_Mo_sound zz) 37 ls st h c n = (o_aload 1 0) r (mx_G r (t_Mo_sound zz)) 37 ls st h c n := mx_G_eq (tm_Mo_sound zz) r 37 ls st h c n
theorem st_Mo_sound_38 (zz : Nat × Nat) (r : mx_T) (ls : mx_L) (st : List Value) (h : mx_H) (c n : Nat) : mx_G r (t_Mo_sound zz) 38 ls st h c n = (o_get 10 35) r (mx_G r (t_Mo_sound zz)) 38 ls st h c n := mx_G_eq (tm_Mo_sound zz) r 38 ls st h c n
theorem st_Mo_sound_41 (zz : Nat × Nat) (r : mx_T) (ls : mx_L) (st : List Value) (h : mx_H) (c n : Nat) : mx_G r (t_Mo_sound zz) 41 ls st h c n = (o_iload 2 4) r (mx_G r (t_Mo_sound zz)) 41 ls st h c n := mx_G_eq (tm_Mo_sound zz) r 41 ls st h c n
theorem st_Mo_sound_43 (zz : Nat × Nat) (r : mx_T) (ls : mx_L) (st : List Value) (h : mx_H) (c n : Nat) : mx_G r (t_Mo_sound zz) 43 ls st h c n = (o_iald .int) r (mx_G r (t_Mo_sound zz)) 43 ls st h c n := mx_G_eq (tm_Mo_sound zz) r 43 ls st h c n
theorem st_Mo_sound_44 (zz : Nat × Nat) (r : mx_T) (ls : mx_L) (st : List Value) (h : mx_H) (c n : Nat) : mx_G r (t_Mo_sound zz) 44 ls st h c n = (o_ii (fun x y => x + y)) r (mx_G r (t_Mo_sound zz)) 44 ls st h c n := mx_G_eq (tm_Mo_sound zz) r 44 ls st h c n
theorem st_Mo_sound_45 (zz : Nat × Nat) (r : mx_T) (ls : mx_L) (st : List Value) (h : mx_H) (c n : Nat) : mx_G r (t_Mo_sound zz) 45 ls st h c n = (o_istore 1 3) r (mx_G r (t_Mo_sound zz)) 45 ls st h c n := mx_G_eq (tm_Mo_sound zz) r 45 ls st h c n
theorem st_Mo_sound_46 (zz : Nat × Nat) (r : mx_T) (ls : mx_L) (st : List Value) (h : mx_H) (c n : Nat) : mx_G r (t_Mo_sound zz) 46 ls st h c n = (o_iinc 4 1) r (mx_G r (t_Mo_sound zz)) 46 ls st h c n := mx_G_eq (tm_Mo_sound zz) r 46 ls st h c n
theorem st_Mo_sound_49 (zz : Nat × Nat) (r : mx_T) (ls : mx_L) (st : List Value) (h : mx_H) (c n : Nat) : mx_G r (t_Mo_sound zz) 49 ls st h c n = (o_goto 30) r (mx_G r (t_Mo_sound zz)) 49 ls st h c n := mx_G_eq (tm_Mo_sound zz) r 49 ls st h c n
theorem st_Mo_sound_52 (zz : Nat × Nat) (r : mx_T) (ls : mx_L) (st : List Value) (h : mx_H) (c n : Nat) : mx_G r (t_Mo_sound zz) 52 ls st h c n = (o_iload 1 3) r (mx_G r (t_Mo_sound zz)) 52 ls st h c n := mx_G_eq (tm_Mo_sound zz) r 52 ls st h c n
theorem st_Mo_sound_53 (zz : Nat × Nat) (r : mx_T) (ls : mx_L) (st : List Value) (h : mx_H) (c n : Nat) : mx_G r (t_Mo_sound zz) 53 ls st h c n = (o_call 0 0 1 0 0 (fun _ _ => True) (S_Mo_check zz)) r (mx_G r (t_Mo_sound zz)) 53 ls st h c n := mx_G_eq (tm_Mo_sound zz) r 53 ls st h c n
theorem st_Mo_sound_56 (zz : Nat × Nat) (r : mx_T) (ls : mx_L) (st : List Value) (h : mx_H) (c n : Nat) : mx_G r (t_Mo_sound zz) 56 ls st h c n = (o_aload 1 0) r (mx_G r (t_Mo_sound zz)) 56 ls st h c n := mx_G_eq (tm_Mo_sound zz) r 56 ls st h c n
theorem st_Mo_sound_57 (zz : Nat × Nat) (r : mx_T) (ls : mx_L) (st : List Value) (h : mx_H) (c n : Nat) : mx_G r (t_Mo_sound zz) 57 ls st h c n = (o_get 10 35) r (mx_G r (t_Mo_sound zz)) 57 ls st h c n := mx_G_eq (tm_Mo_sound zz) r 57 ls st h c n
theorem st_Mo_sound_60 (zz : Nat × Nat) (r : mx_T) (ls : mx_L) (st : List Value) (h : mx_H) (c n : Nat) : mx_G r (t_Mo_sound zz) 60 ls st h c n = (o_iload 1 1) r (mx_G r (t_Mo_sound zz)) 60 ls st h c n := mx_G_eq (tm_Mo_sound zz) r 60 ls st h c n
theorem st_Mo_sound_61 (zz : Nat × Nat) (r : mx_T) (ls : mx_L) (st : List Value) (h : mx_H) (c n : Nat) : mx_G r (t_Mo_sound zz) 61 ls st h c n = (o_push 1 (.int 1)) r (mx_G r (t_Mo_sound zz)) 61 ls st h c n := mx_G_eq (tm_Mo_sound zz) r 61 ls st h c n
theorem st_Mo_sound_62 (zz : Nat × Nat) (r : mx_T) (ls : mx_L) (st : List Value) (h : mx_H) (c n : Nat) : mx_G r (t_Mo_sound zz) 62 ls st h c n = (o_ii (fun x y => x + y)) r (mx_G r (t_Mo_sound zz)) 62 ls st h c n := mx_G_eq (tm_Mo_sound zz) r 62 ls st h c n
theorem st_Mo_sound_63 (zz : Nat × Nat) (r : mx_T) (ls : mx_L) (st : List Value) (h : mx_H) (c n : Nat) : mx_G r (t_Mo_sound zz) 63 ls st h c n = (o_iald .int) r (mx_G r (t_Mo_sound zz)) 63 ls st h c n := mx_G_eq (tm_Mo_sound zz) r 63 ls st h c n
theorem st_Mo_sound_64 (zz : Nat × Nat) (r : mx_T) (ls : mx_L) (st : List Value) (h : mx_H) (c n : Nat) : mx_G r (t_Mo_sound zz) 64 ls st h c n = (o_icmp 71 (fun x y => ¬ x = y)) r (mx_G r (t_Mo_sound zz)) 64 ls st h c n := mx_G_eq (tm_Mo_sound zz) r 64 ls st h c n
theorem st_Mo_sound_67 (zz : Nat × Nat) (r : mx_T) (ls : mx_L) (st : List Value) (h : mx_H) (c n : Nat) : mx_G r (t_Mo_sound zz) 67 ls st h c n = (o_push 1 (.int 1)) r (mx_G r (t_Mo_sound zz)) 67 ls st h c n := mx_G_eq (tm_Mo_sound zz) r 67 ls st h c n
theorem st_Mo_sound_68 (zz : Nat × Nat) (r : mx_T) (ls : mx_L) (st : List Value) (h : mx_H) (c n : Nat) : mx_G r (t_Mo_sound zz) 68 ls st h c n = (o_goto 72) r (mx_G r (t_Mo_sound zz)) 68 ls st h c n := mx_G_eq (tm_Mo_sound zz) r 68 ls st h c n
theorem st_Mo_sound_71 (zz : Nat × Nat) (r : mx_T) (ls : mx_L) (st : List Value) (h : mx_H) (c n : Nat) : mx_G r (t_Mo_sound zz) 71 ls st h c n = (o_push 1 (.int 0)) r (mx_G r (t_Mo_sound zz)) 71 ls st h c n := mx_G_eq (tm_Mo_sound zz) r 71 ls st h c n
theorem st_Mo_sound_72 (zz : Nat × Nat) (r : mx_T) (ls : mx_L) (st : List Value) (h : mx_H) (c n : Nat) : mx_G r (t_Mo_sound zz) 72 ls st h c n = (o_zret) r (mx_G r (t_Mo_sound zz)) 72 ls st h c n := mx_G_eq (tm_Mo_sound zz) r 72 ls st h c n
theorem d_Mo_receive_0 : decode c_Mo_receive 0 = .ok (.iconst 0, 1) := by decide +kernel
theorem d_Mo_receive_1 : decode c_Mo_receive 1 = .ok (.istore_n 2, 1) := by decide +kernel
theorem d_Mo_receive_2 : decode c_Mo_receive 2 = .ok (.iload_n 2, 1) := by decide +kernel
theorem d_Mo_receive_3 : decode c_Mo_receive 3 = .ok (.aload_n 0, 1) := by decide +kernel
theorem d_Mo_receive_4 : decode c_Mo_receive 4 = .ok (.getfield 99, 3) := by decide +kernel
theorem d_Mo_receive_7 : decode c_Mo_receive 7 = .ok (.if_icmp .ge 92, 3) := by decide +kernel
theorem d_Mo_receive_10 : decode c_Mo_receive 10 = .ok (.aload_n 0, 1) := by decide +kernel
theorem d_Mo_receive_11 : decode c_Mo_receive 11 = .ok (.getfield 29, 3) := by decide +kernel
theorem d_Mo_receive_14 : decode c_Mo_receive 14 = .ok (.iload_n 2, 1) := by decide +kernel
theorem d_Mo_receive_15 : decode c_Mo_receive 15 = .ok (.iaload, 1) := by decide +kernel
theorem d_Mo_receive_16 : decode c_Mo_receive 16 = .ok (.iload_n 1, 1) := by decide +kernel
theorem d_Mo_receive_17 : decode c_Mo_receive 17 = .ok (.if_icmp .ne 76, 3) := by decide +kernel
theorem d_Mo_receive_20 : decode c_Mo_receive 20 = .ok (.iconst 0, 1) := by decide +kernel
theorem d_Mo_receive_21 : decode c_Mo_receive 21 = .ok (.istore_n 3, 1) := by decide +kernel
theorem d_Mo_receive_22 : decode c_Mo_receive 22 = .ok (.iconst 0, 1) := by decide +kernel
theorem d_Mo_receive_23 : decode c_Mo_receive 23 = .ok (.istore 4, 2) := by decide +kernel
theorem d_Mo_receive_25 : decode c_Mo_receive 25 = .ok (.iload 4, 2) := by decide +kernel
theorem d_Mo_receive_27 : decode c_Mo_receive 27 = .ok (.aload_n 0, 1) := by decide +kernel
theorem d_Mo_receive_28 : decode c_Mo_receive 28 = .ok (.getfield 35, 3) := by decide +kernel
theorem d_Mo_receive_31 : decode c_Mo_receive 31 = .ok (.iload_n 2, 1) := by decide +kernel
theorem d_Mo_receive_32 : decode c_Mo_receive 32 = .ok (.iaload, 1) := by decide +kernel
theorem d_Mo_receive_33 : decode c_Mo_receive 33 = .ok (.if_icmp .ge 46, 3) := by decide +kernel
theorem d_Mo_receive_36 : decode c_Mo_receive 36 = .ok (.aload_n 0, 1) := by decide +kernel
theorem d_Mo_receive_37 : decode c_Mo_receive 37 = .ok (.getfield 32, 3) := by decide +kernel
theorem d_Mo_receive_40 : decode c_Mo_receive 40 = .ok (.iload_n 2, 1) := by decide +kernel
theorem d_Mo_receive_41 : decode c_Mo_receive 41 = .ok (.iaload, 1) := by decide +kernel
theorem d_Mo_receive_42 : decode c_Mo_receive 42 = .ok (.iload 4, 2) := by decide +kernel
theorem d_Mo_receive_44 : decode c_Mo_receive 44 = .ok (.iadd, 1) := by decide +kernel
theorem d_Mo_receive_45 : decode c_Mo_receive 45 = .ok (.istore 5, 2) := by decide +kernel
theorem d_Mo_receive_47 : decode c_Mo_receive 47 = .ok (.iload_n 3, 1) := by decide +kernel
theorem d_Mo_receive_48 : decode c_Mo_receive 48 = .ok (.aload_n 0, 1) := by decide +kernel
theorem d_Mo_receive_49 : decode c_Mo_receive 49 = .ok (.getfield 75, 3) := by decide +kernel
theorem d_Mo_receive_52 : decode c_Mo_receive 52 = .ok (.iconst 1, 1) := by decide +kernel
theorem d_Mo_receive_53 : decode c_Mo_receive 53 = .ok (.iload 5, 2) := by decide +kernel
theorem d_Mo_receive_55 : decode c_Mo_receive 55 = .ok (.bipush 8, 2) := by decide +kernel
theorem d_Mo_receive_57 : decode c_Mo_receive 57 = .ok (.idiv, 1) := by decide +kernel
theorem d_Mo_receive_58 : decode c_Mo_receive 58 = .ok (.iadd, 1) := by decide +kernel
theorem d_Mo_receive_59 : decode c_Mo_receive 59 = .ok (.iaload, 1) := by decide +kernel
theorem d_Mo_receive_60 : decode c_Mo_receive 60 = .ok (.iload 5, 2) := by decide +kernel
theorem d_Mo_receive_62 : decode c_Mo_receive 62 = .ok (.bipush 8, 2) := by decide +kernel
theorem d_Mo_receive_64 : decode c_Mo_receive 64 = .ok (.irem, 1) := by decide +kernel
theorem d_Mo_receive_65 : decode c_Mo_receive 65 = .ok (.ishr, 1) := by decide +kernel
theorem d_Mo_receive_66 : decode c_Mo_receive 66 = .ok (.iconst 1, 1) := by decide +kernel
theorem d_Mo_receive_67 : decode c_Mo_receive 67 = .ok (.iand, 1) := by decide +kernel
theorem d_Mo_receive_68 : decode c_Mo_receive 68 = .ok (.iload 4, 2) := by decide +kernel
theorem d_Mo_receive_70 : decode c_Mo_receive 70 = .ok (.ishl, 1) := by decide +kernel
theorem d_Mo_receive_71 : decode c_Mo_receive 71 = .ok (.iadd, 1) := by decide +kernel
theorem d_Mo_receive_72 : decode c_Mo_receive 72 = .ok (.istore_n 3, 1) := by decide +kernel
theorem d_Mo_receive_73 : decode c_Mo_receive 73 = .ok (.iinc 4 1, 3) := by decide +kernel
theorem d_Mo_receive_76 : decode c_Mo_receive 76 = .ok (.goto (-51), 3) := by decide +kernel
theorem d_Mo_receive_79 : decode c_Mo_receive 79 = .ok (.aload_n 0, 1) := by decide +kernel
theorem d_Mo_receive_80 : decode c_Mo_receive 80 = .ok (.getfield 41, 3) := by decide +kernel
theorem d_Mo_receive_83 : decode c_Mo_receive 83 = .ok (.iload_n 2, 1) := by decide +kernel
theorem d_Mo_receive_84 : decode c_Mo_receive 84 = .ok (.iload_n 3, 1) := by decide +kernel
theorem d_Mo_receive_85 : decode c_Mo_receive 85 = .ok (.iastore, 1) := by decide +kernel
theorem d_Mo_receive_86 : decode c_Mo_receive 86 = .ok (.aload_n 0, 1) := by decide +kernel
theorem d_Mo_receive_87 : decode c_Mo_receive 87 = .ok (.getfield 44, 3) := by decide +kernel
theorem d_Mo_receive_90 : decode c_Mo_receive 90 = .ok (.iload_n 2, 1) := by decide +kernel
theorem d_Mo_receive_91 : decode c_Mo_receive 91 = .ok (.iconst 1, 1) := by decide +kernel
theorem d_Mo_receive_92 : decode c_Mo_receive 92 = .ok (.bastore, 1) := by decide +kernel
theorem d_Mo_receive_93 : decode c_Mo_receive 93 = .ok (.iinc 2 1, 3) := by decide +kernel
theorem d_Mo_receive_96 : decode c_Mo_receive 96 = .ok (.goto (-94), 3) := by decide +kernel
theorem d_Mo_receive_99 : decode c_Mo_receive 99 = .ok (.aload_n 0, 1) := by decide +kernel
theorem d_Mo_receive_100 : decode c_Mo_receive 100 = .ok (.getfield 23, 3) := by decide +kernel
theorem d_Mo_receive_103 : decode c_Mo_receive 103 = .ok (.iload_n 1, 1) := by decide +kernel
theorem d_Mo_receive_104 : decode c_Mo_receive 104 = .ok (.iconst 0, 1) := by decide +kernel
theorem d_Mo_receive_105 : decode c_Mo_receive 105 = .ok (.bastore, 1) := by decide +kernel
theorem d_Mo_receive_106 : decode c_Mo_receive 106 = .ok (.return_, 1) := by decide +kernel
def t_Mo_receive (zz : Nat × Nat) : List (Nat × mx_O) := [(0, o_push 1 (.int 0)),
  (1, o_istore 1 2),
  (2, o_iload 1 2),
  (3, o_aload 1 0),
  (4, o_get 10 7),
  (7, o_icmp 99 (fun x y => y ≤ x)),
  (10, o_aload 1 0),
  (11, o_get 10 8),
  (14, o_iload 1 2),
  (15, o_iald .int),
  (16, o_iload 1 1),
  (17, o_icmp 93 (fun x y => ¬ x = y)),
  (20, o_push 1 (.int 0)),
  (21, o_istore 1 3),
  (22, o_push 1 (.int 0)),
  (23, o_istore 2 4),
  (25, o_iload 2 4),
  (27, o_aload 1 0),
  (28, o_get 10 10),
  (31, o_iload 1 2),
  (32, o_iald .int),
  (33, o_icmp 79 (fun x y => y ≤ x)),
  (36, o_aload 1 0),
  (37, o_get 10 9),
  (40, o_iload 1 2),
  (41, o_iald .int),
  (42, o_iload 2 4),
  (44, o_ii (fun x y => x + y)),
  (45, o_istore 2 5),
  (47, o_iload 1 3),
  (48, o_aload 1 0),
  (49, o_get 10 35),
  (52, o_push 1 (.int 1)),
  (53, o_iload 2 5),
  (55, o_push 2 (.int 8)),
  (57, o_iiz (fun x y => x / y)),
  (58, o_ii (fun x y => x + y)),
  (59, o_iald .int),
  (60, o_iload 2 5),
  (62, o_push 2 (.int 8)),
  (64, o_iiz (fun x y => x - x / y * y)),
  (65, o_ii (fun x y => x >>> (y &&& 31))),
  (66, o_push 1 (.int 1)),
  (67, o_ii (fun x y => x &&& y)),
  (68, o_iload 2 4),
  (70, o_ii (fun x y => x <<< (y &&& 31))),
  (71, o_ii (fun x y => x + y)),
  (72, o_istore 1 3),
  (73, o_iinc 4 1),
  (76, o_goto 25),
  (79, o_aload 1 0),
  (80, o_get 10 12),
  (83, o_iload 1 2),
  (84, o_iload 1 3),
  (85, o_iast .int (fun x => x)),
  (86, o_aload 1 0),
  (87, o_get 10 13),
  (90, o_iload 1 2),
  (91, o_push 1 (.int 1)),
  (92, o_iast .boolean (vp_nar .boolean)),
  (93, o_iinc 2 1),
  (96, o_goto 2),
  (99, o_aload 1 0),
  (100, o_get 10 5),
  (103, o_iload 1 1),
  (104, o_push 1 (.int 0)),
  (105, o_iast .boolean (vp_nar .boolean)),
  (106, o_vret)]
set_option maxRecDepth 100000 in
theorem tm_Mo_receive (zz : Nat × Nat) : mx_All (fun _ o => mx_Mono o) (t_Mo_receive zz) := by
  refine mx_all_cons (mo_st) ?_
  refine mx_all_cons (mo_st) ?_
  refine mx_all_cons (mo_st) ?_
  refine mx_all_cons (mo_st) ?_
  refine mx_all_cons (mo_st) ?_
  refine mx_all_cons (mo_br) ?_
  refine mx_all_cons (mo_st) ?_
  refine mx_all_cons (mo_st) ?_
  refine mx_all_cons (mo_st) ?_
  refine mx_all_cons (mo_sc) ?_
  refine mx_all_cons (mo_st) ?_
  refine mx_all_cons (mo_br) ?_
  refine mx_all_cons (mo_st) ?_
  refine mx_all_cons (mo_st) ?_
  refine mx_all_cons (mo_st) ?_
  refine mx_all_cons (mo_st) ?_
  refine mx_all_cons (mo_st) ?_
  refine mx_all_cons (mo_st) ?_
  refine mx_all_cons (mo_st) ?_
  refine mx_all_cons (mo_st) ?_
  refine mx_all_cons (mo_sc) ?_
  refine mx_all_cons (mo_br) ?_
  refine mx_all_cons (mo_st) ?_
  refine mx_all_cons (mo_st) ?_
  refine mx_all_cons (mo_st) ?_
  refine mx_all_cons (mo_sc) ?_
  refine mx_all_cons (mo_st) ?_
  refine mx_all_cons (mo_st) ?_
  refine mx_all_cons (mo_st) ?_
  refine mx_all_cons (mo_st) ?_
  refine mx_all_cons (mo_st) ?_
  refine mx_all_cons (mo_st) ?_
  refine mx_all_cons (mo_st) ?_
  refine mx_all_cons (mo_st) ?_
  refine mx_all_cons (mo_st) ?_
  refine mx_all_cons (mo_sc) ?_
  refine mx_all_cons (mo_st) ?_
  refine mx_all_cons (mo_sc) ?_
  refine mx_all_cons (mo_st) ?_
  refine mx_all_cons (mo_st) ?_
  refine mx_all_cons (mo_sc) ?_
  refine mx_all_cons (mo_st) ?_
  refine mx_all_cons (mo_st) ?_
  refine mx_all_cons (mo_st) ?_
  refine mx_all_cons (mo_st) ?_
  refine mx_all_cons (mo_st) ?_
  refine mx_all_cons (mo_st) ?_
  refine mx_all_cons (mo_st) ?_
  refine mx_all_cons (mo_st) ?_
  refine mx_all_cons (mo_st) ?_
  refine mx_all_cons (mo_st) ?_
  refine mx_all_cons (mo_st) ?_
  refine mx_all_cons (mo_st) ?_
  refine mx_all_cons (mo_st) ?_
  refine mx_all_cons (mo_sc) ?_
  refine mx_all_cons (mo_st) ?_
  refine mx_all_cons (mo_st) ?_
  refine mx_all_cons (mo_st) ?_
  refine mx_all_cons (mo_st) ?_
  refine mx_all_cons (mo_sc) ?_
  refine mx_all_cons (mo_st) ?_
  refine mx_all_cons (mo_st) ?_
  refine mx_all_cons (mo_st) ?_
  refine mx_all_cons (mo_st) ?_
  refine mx_all_cons (mo_st) ?_
  refine mx_all_cons (mo_st) ?_
  refine mx_all_cons (mo_sc) ?_
  refine mx_all_cons (mo_ret) ?_
  exact mx_all_nil
def S_Mo_receive (zz : Nat × Nat) : mx_Sp := mx_S 6 0 0 (t_Mo_receive zz)
theorem sm_Mo_receive (zz : Nat × Nat) : mx_SMono (S_Mo_receive zz) := mx_S_mono (tm_Mo_receive zz)
abbrev rm_Mo_receive : Room := { frames := 0, cells := 0, slots := 0, locals := 0 }
set_option maxHeartbeats 4000000 in
set_option maxRecDepth 100000 in
theorem m_Mo_receive (l : Launch) (zz : Nat × Nat) : mx_Met l y_Mo_receive (wsOf y_Mo_receive c_Mo_receive 6 none) rm_Mo_receive wcl (mx_Z zz) 0 0 (S_Mo_receive zz) := by
  refine mx_met (cc := c_Mo_receive) (ret := none) (by decide) rfl ?_
  intro p e s m args below meth c D A Post X hz hr hlk hnm
  have hm : ∀ w ∈ mw, w.before args s = true := fun w h => X.1.2.2.2.2 w (List.mem_cons_of_mem _ h)
  refine mx_all_cons (ok_push (fun kk => lv_iconst X.1.1 X.1.2.1 d_Mo_receive_0 (by decide) kk)) ?_
  refine mx_all_cons (ok_istore (fun hl kk => lv_istore_n X.1.1 X.1.2.1 d_Mo_receive_1 rfl hl (by decide) rfl kk)) ?_
  refine mx_all_cons (ok_iload (fun hl kk => lv_iload_n X.1.1 X.1.2.1 d_Mo_receive_2 rfl hl kk)) ?_
  refine mx_all_cons (ok_aload (fun hl kk => lv_aload_n X.1.1 X.1.2.1 d_Mo_receive_3 rfl hl kk) (fun hl kk => lv_aload_nN X.1.1 X.1.2.1 d_Mo_receive_3 rfl hl kk)) ?_
  refine mx_all_cons (ok_get (C := "HeaderScheduleModel") (T := T_Mo) (N := 40) X (mw_up in_Mo) rfl 7 (by decide) (hm _ w684) (fun _ h9 => h9) d_Mo_receive_4) ?_
  refine mx_all_cons (ok_icmp (fun kt kf => lv_icmp_ge X.1.1 X.1.2.1 d_Mo_receive_7 (by decide) kt kf)) ?_
  refine mx_all_cons (ok_aload (fun hl kk => lv_aload_n X.1.1 X.1.2.1 d_Mo_receive_10 rfl hl kk) (fun hl kk => lv_aload_nN X.1.1 X.1.2.1 d_Mo_receive_10 rfl hl kk)) ?_
  refine mx_all_cons (ok_get (C := "HeaderScheduleModel") (T := T_Mo) (N := 40) X (mw_up in_Mo) rfl 8 (by decide) (hm _ w685) (fun _ h9 => h9) d_Mo_receive_11) ?_
  refine mx_all_cons (ok_iload (fun hl kk => lv_iload_n X.1.1 X.1.2.1 d_Mo_receive_14 rfl hl kk)) ?_
  refine mx_all_cons (ok_iald X d_Mo_receive_15) ?_
  refine mx_all_cons (ok_iload (fun hl kk => lv_iload_n X.1.1 X.1.2.1 d_Mo_receive_16 rfl hl kk)) ?_
  refine mx_all_cons (ok_icmp (fun kt kf => lv_icmp_ne X.1.1 X.1.2.1 d_Mo_receive_17 (by decide) kt (fun z => kf (fun g => g z)))) ?_
  refine mx_all_cons (ok_push (fun kk => lv_iconst X.1.1 X.1.2.1 d_Mo_receive_20 (by decide) kk)) ?_
  refine mx_all_cons (ok_istore (fun hl kk => lv_istore_n X.1.1 X.1.2.1 d_Mo_receive_21 rfl hl (by decide) rfl kk)) ?_
  refine mx_all_cons (ok_push (fun kk => lv_iconst X.1.1 X.1.2.1 d_Mo_receive_22 (by decide) kk)) ?_
  refine mx_all_cons (ok_istore (fun hl kk => lv_istore X.1.1 X.1.2.1 d_Mo_receive_23 hl (by decide) rfl kk)) ?_
  refine mx_all_cons (ok_iload (fun hl kk => lv_iload X.1.1 X.1.2.1 d_Mo_receive_25 hl kk)) ?_
  refine mx_all_cons (ok_aload (fun hl kk => lv_aload_n X.1.1 X.1.2.1 d_Mo_receive_27 rfl hl kk) (fun hl kk => lv_aload_nN X.1.1 X.1.2.1 d_Mo_receive_27 rfl hl kk)) ?_
  refine mx_all_cons (ok_get (C := "HeaderScheduleModel") (T := T_Mo) (N := 40) X (mw_up in_Mo) rfl 10 (by decide) (hm _ w687) (fun _ h9 => h9) d_Mo_receive_28) ?_
  refine mx_all_cons (ok_iload (fun hl kk => lv_iload_n X.1.1 X.1.2.1 d_Mo_receive_31 rfl hl kk)) ?_
  refine mx_all_cons (ok_iald X d_Mo_receive_32) ?_
  refine mx_all_cons (ok_icmp (fun kt kf => lv_icmp_ge X.1.1 X.1.2.1 d_Mo_receive_33 (by decide) kt kf)) ?_
  refine mx_all_cons (ok_aload (fun hl kk => lv_aload_n X.1.1 X.1.2.1 d_Mo_receive_36 rfl hl kk) (fun hl kk => lv_aload_nN X.1.1 X.1.2.1 d_Mo_receive_36 rfl hl kk)) ?_
  refine mx_all_cons (ok_get (C := "HeaderScheduleModel") (T := T_Mo) (N := 40) X (mw_up in_Mo) rfl 9 (by decide) (hm _ w686) (fun _ h9 => h9) d_Mo_receive_37) ?_
  refine mx_all_cons (ok_iload (fun hl kk => lv_iload_n X.1.1 X.1.2.1 d_Mo_receive_40 rfl hl kk)) ?_
  refine mx_all_cons (ok_iald X d_Mo_receive_41) ?_
  refine mx_all_cons (ok_iload (fun hl kk => lv_iload X.1.1 X.1.2.1 d_Mo_receive_42 hl kk)) ?_
  refine mx_all_cons (ok_ii (fun kk => lv_iadd X.1.1 X.1.2.1 d_Mo_receive_44 kk)) ?_
  refine mx_all_cons (ok_istore (fun hl kk => lv_istore X.1.1 X.1.2.1 d_Mo_receive_45 hl (by decide) rfl kk)) ?_
  refine mx_all_cons (ok_iload (fun hl kk => lv_iload_n X.1.1 X.1.2.1 d_Mo_receive_47 rfl hl kk)) ?_
  refine mx_all_cons (ok_aload (fun hl kk => lv_aload_n X.1.1 X.1.2.1 d_Mo_receive_48 rfl hl kk) (fun hl kk => lv_aload_nN X.1.1 X.1.2.1 d_Mo_receive_48 rfl hl kk)) ?_
  refine mx_all_cons (ok_get (C := "HeaderScheduleModel") (T := T_Mo) (N := 40) X (mw_up in_Mo) rfl 35 (by decide) (hm _ w712) (fun _ h9 => h9) d_Mo_receive_49) ?_
  refine mx_all_cons (ok_push (fun kk => lv_iconst X.1.1 X.1.2.1 d_Mo_receive_52 (by decide) kk)) ?_
  refine mx_all_cons (ok_iload (fun hl kk => lv_iload X.1.1 X.1.2.1 d_Mo_receive_53 hl kk)) ?_
  refine mx_all_cons (ok_push (fun kk => lv_bipush X.1.1 X.1.2.1 d_Mo_receive_55 (by decide) kk)) ?_
  refine mx_all_cons (ok_iiz (fun hy kk => lv_idiv X.1.1 X.1.2.1 d_Mo_receive_57 hy kk)) ?_
  refine mx_all_cons (ok_ii (fun kk => lv_iadd X.1.1 X.1.2.1 d_Mo_receive_58 kk)) ?_
  refine mx_all_cons (ok_iald X d_Mo_receive_59) ?_
  refine mx_all_cons (ok_iload (fun hl kk => lv_iload X.1.1 X.1.2.1 d_Mo_receive_60 hl kk)) ?_
  refine mx_all_cons (ok_push (fun kk => lv_bipush X.1.1 X.1.2.1 d_Mo_receive_62 (by decide) kk)) ?_
  refine mx_all_cons (ok_iiz (fun hy kk => lv_irem X.1.1 X.1.2.1 d_Mo_receive_64 hy kk)) ?_
  refine mx_all_cons (ok_ii (fun kk => lv_ishr X.1.1 X.1.2.1 d_Mo_receive_65 kk)) ?_
  refine mx_all_cons (ok_push (fun kk => lv_iconst X.1.1 X.1.2.1 d_Mo_receive_66 (by decide) kk)) ?_
  refine mx_all_cons (ok_ii (fun kk => lv_iand X.1.1 X.1.2.1 d_Mo_receive_67 kk)) ?_
  refine mx_all_cons (ok_iload (fun hl kk => lv_iload X.1.1 X.1.2.1 d_Mo_receive_68 hl kk)) ?_
  refine mx_all_cons (ok_ii (fun kk => lv_ishl X.1.1 X.1.2.1 d_Mo_receive_70 kk)) ?_
  refine mx_all_cons (ok_ii (fun kk => lv_iadd X.1.1 X.1.2.1 d_Mo_receive_71 kk)) ?_
  refine mx_all_cons (ok_istore (fun hl kk => lv_istore_n X.1.1 X.1.2.1 d_Mo_receive_72 rfl hl (by decide) rfl kk)) ?_
  refine mx_all_cons (ok_iinc X (by decide) (by decide) d_Mo_receive_73) ?_
  refine mx_all_cons (ok_goto X d_Mo_receive_76 (by decide)) ?_
  refine mx_all_cons (ok_aload (fun hl kk => lv_aload_n X.1.1 X.1.2.1 d_Mo_receive_79 rfl hl kk) (fun hl kk => lv_aload_nN X.1.1 X.1.2.1 d_Mo_receive_79 rfl hl kk)) ?_
  refine mx_all_cons (ok_get (C := "HeaderScheduleModel") (T := T_Mo) (N := 40) X (mw_up in_Mo) rfl 12 (by decide) (hm _ w689) (fun _ h9 => h9) d_Mo_receive_80) ?_
  refine mx_all_cons (ok_iload (fun hl kk => lv_iload_n X.1.1 X.1.2.1 d_Mo_receive_83 rfl hl kk)) ?_
  refine mx_all_cons (ok_iload (fun hl kk => lv_iload_n X.1.1 X.1.2.1 d_Mo_receive_84 rfl hl kk)) ?_
  refine mx_all_cons (ok_iast X d_Mo_receive_85) ?_
  refine mx_all_cons (ok_aload (fun hl kk => lv_aload_n X.1.1 X.1.2.1 d_Mo_receive_86 rfl hl kk) (fun hl kk => lv_aload_nN X.1.1 X.1.2.1 d_Mo_receive_86 rfl hl kk)) ?_
  refine mx_all_cons (ok_get (C := "HeaderScheduleModel") (T := T_Mo) (N := 40) X (mw_up in_Mo) rfl 13 (by decide) (hm _ w690) (fun _ h9 => h9) d_Mo_receive_87) ?_
  refine mx_all_cons (ok_iload (fun hl kk => lv_iload_n X.1.1 X.1.2.1 d_Mo_receive_90 rfl hl kk)) ?_
  refine mx_all_cons (ok_push (fun kk => lv_iconst X.1.1 X.1.2.1 d_Mo_receive_91 (by decide) kk)) ?_
  refine mx_all_cons (ok_zast X d_Mo_receive_92) ?_
  refine mx_all_cons (ok_iinc X (by decide) (by decide) d_Mo_receive_93) ?_
  refine mx_all_cons (ok_goto X d_Mo_receive_96 (by decide)) ?_
  refine mx_all_cons (ok_aload (fun hl kk => lv_aload_n X.1.1 X.1.2.1 d_Mo_receive_99 rfl hl kk) (fun hl kk => lv_aload_nN X.1.1 X.1.2.1 d_Mo_receive_99 rfl hl kk)) ?_
  refine mx_all_cons (ok_get (C := "HeaderScheduleModel") (T := T_Mo) (N := 40) X (mw_up in_Mo) rfl 5 (by decide) (hm _ w682) (fun _ h9 => h9) d_Mo_receive_100) ?_
  refine mx_all_cons (ok_iload (fun hl kk => lv_iload_n X.1.1 X.1.2.1 d_Mo_receive_103 rfl hl kk)) ?_
  refine mx_all_cons (ok_push (fun kk => lv_iconst X.1.1 X.1.2.1 d_Mo_receive_104 (by decide) kk)) ?_
  refine mx_all_cons (ok_zast X d_Mo_receive_105) ?_
  refine mx_all_cons (ok_vret X hr hlk d_Mo_receive_106) ?_
  exact mx_all_nil
theorem st_Mo_receive_0 (zz : Nat × Nat) (r : mx_T) (ls : mx_L) (st : List Value) (h : mx_H) (c n : Nat) : mx_G r (t_Mo_receive zz) 0 ls st h c n = (o_push 1 (.int 0)) r (mx_G r (t_Mo_receive zz)) 0 ls st h c n := mx_G_eq (tm_Mo_receive zz) r 0 ls st h c n
theorem st_Mo_receive_1 (zz : Nat × Nat) (r : mx_T) (ls : mx_L) (st : List Value) (h : mx_H) (c n : Nat) : mx_G r (t_Mo_receive zz) 1 ls st h c n = (o_istore 1 2) r (mx_G r (t_Mo_receive zz)) 1 ls st h c n := mx_G_eq (tm_Mo_receive zz) r 1 ls st h c n
theorem st_Mo_receive_2 (zz : Nat × Nat) (r : mx_T) (ls : mx_L) (st : List Value) (h : mx_H) (c n : Nat) : mx_G r (t_Mo_receive zz) 2 ls st h c n = (o_iload 1 2) r (mx_G r (t_Mo_receive zz)) 2 ls st h c n := mx_G_eq (tm_Mo_receive zz) r 2 ls st h c n
theorem st_Mo_receive_3 (zz : Nat × Nat) (r : mx_T) (ls : mx_L) (st : List Value) (h : mx_H) (c n : Nat) : mx_G r (t_Mo_receive zz) 3 ls st h c n = (o_aload 1 0) r (mx_G r (t_Mo_receive zz)) 3 ls st h c n := mx_G_eq (tm_Mo_receive zz) r 3 ls st h c n
theorem st_Mo_receive_4 (zz : Nat × Nat) (r : mx_T) (ls : mx_L) (st : List Value) (h : mx_H) (c n : Nat) : mx_G r (t_Mo_receive zz) 4 ls st h c n = (o_get 10 7) r (mx_G r (t_Mo_receive zz)) 4 ls st h c n := mx_G_eq (tm_Mo_receive zz) r 4 ls st h c n
theorem st_Mo_receive_7 (zz : Nat × Nat) (r : mx_T) (ls : mx_L) (st : List Value) (h : mx_H) (c n : Nat) : mx_G r (t_Mo_receive zz) 7 ls st h c n = (o_icmp 99 (fun x y => y ≤ x)) r (mx_G r (t_Mo_receive zz)) 7 ls st h c n := mx_G_eq (tm_Mo_receive zz) r 7 ls st h c n
theorem st_Mo_receive_10 (zz : Nat × Nat) (r : mx_T) (ls : mx_L) (st : List Value) (h : mx_H) (c n : Nat) : mx_G r (t_Mo_receive zz) 10 ls st h c n = (o_aload 1 0) r (mx_G r (t_Mo_receive zz)) 10 ls st h c n := mx_G_eq (tm_Mo_receive zz) r 10 ls st h c n
theorem st_Mo_receive_11 (zz : Nat × Nat) (r : mx_T) (ls : mx_L) (st : List Value) (h : mx_H) (c n : Nat) : mx_G r (t_Mo_receive zz) 11 ls st h c n = (o_get 10 8) r (mx_G r (t_Mo_receive zz)) 11 ls st h c n := mx_G_eq (tm_Mo_receive zz) r 11 ls st h c n
theorem st_Mo_receive_14 (zz : Nat × Nat) (r : mx_T) (ls : mx_L) (st : List Value) (h : mx_H) (c n : Nat) : mx_G r (t_Mo_receive zz) 14 ls st h c n = (o_iload 1 2) r (mx_G r (t_Mo_receive zz)) 14 ls st h c n := mx_G_eq (tm_Mo_receive zz) r 14 ls st h c n
theorem st_Mo_receive_15 (zz : Nat × Nat) (r : mx_T) (ls : mx_L) (st : List Value) (h : mx_H) (c n : Nat) : mx_G r (t_Mo_receive zz) 15 ls st h c n = (o_iald .int) r (mx_G r (t_Mo_receive zz)) 15 ls st h c n := mx_G_eq (tm_Mo_receive zz) r 15 ls st h c n
theorem st_Mo_receive_16 (zz : Nat × Nat) (r : mx_T) (ls : mx_L) (st : List Value) (h : mx_H) (c n : Nat) : mx_G r (t_Mo_receive zz) 16 ls st h c n = (o_iload 1 1) r (mx_G r (t_Mo_receive zz)) 16 ls st h c n := mx_G_eq (tm_Mo_receive zz) r 16 ls st h c n
theorem st_Mo_receive_17 (zz : Nat × Nat) (r : mx_T) (ls : mx_L) (st : List Value) (h : mx_H) (c n : Nat) : mx_G r (t_Mo_receive zz) 17 ls st h c n = (o_icmp 93 (fun x y => ¬ x = y)) r (mx_G r (t_Mo_receive zz)) 17 ls st h c n := mx_G_eq (tm_Mo_receive zz) r 17 ls st h c n
theorem st_Mo_receive_20 (zz : Nat × Nat) (r : mx_T) (ls : mx_L) (st : List Value) (h : mx_H) (c n : Nat) : mx_G r (t_Mo_receive zz) 20 ls st h c n = (o_push 1 (.int 0)) r (mx_G r (t_Mo_receive zz)) 20 ls st h c n := mx_G_eq (tm_Mo_receive zz) r 20 ls st h c n
theorem st_Mo_receive_21 (zz : Nat × Nat) (r : mx_T) (ls : mx_L) (st : List Value) (h : mx_H) (c n : Nat) : mx_G r (t_Mo_receive zz) 21 ls st h c n = (o_istore 1 3) r (mx_G r (t_Mo_receive zz)) 21 ls st h c n := mx_G_eq (tm_Mo_receive zz) r 21 ls st h c n
theorem st_Mo_receive_22 (zz : Nat × Nat) (r : mx_T) (ls : mx_L) (st : List Value) (h : mx_H) (c n : Nat) : mx_G r (t_Mo_receive zz) 22 ls st h c n = (o_push 1 (.int 0)) r (mx_G r (t_Mo_receive zz)) 22 ls st h c n := mx_G_eq (tm_Mo_receive zz) r 22 ls st h c n
theorem st_Mo_receive_23 (zz : Nat × Nat) (r : mx_T) (ls : mx_L) (st : List Value) (h : mx_H) (c n : Nat) : mx_G r (t_Mo_receive zz) 23 ls st h c n = (o_istore 2 4) r (mx_G r (t_Mo_receive zz)) 23 ls st h c n := mx_G_eq (tm_Mo_receive zz) r 23 ls st h c n
theorem st_Mo_receive_25 (zz : Nat × Nat) (r : mx_T) (ls : mx_L) (st : List Value) (h : mx_H) (c n : Nat) : mx_G r (t_Mo_receive zz) 25 ls st h c n = (o_iload 2 4) r (mx_G r (t_Mo_receive zz)) 25 ls st h c n := mx_G_eq (tm_Mo_receive zz) r 25 ls st h c n
theorem st_Mo_receive_27 (zz : Nat × Nat) (r : mx_T) (ls : mx_L) (st : List Value) (h : mx_H) (c n : Nat) : mx_G r (t_Mo_receive zz) 27 ls st h c n = (o_aload 1 0) r (mx_G r (t_Mo_receive zz)) 27 ls st h c n := mx_G_eq (tm_Mo_receive zz) r 27 ls st h c n
theorem st_Mo_receive_28 (zz : Nat × Nat) (r : mx_T) (ls : mx_L) (st : List Value) (h : mx_H) (c n : Nat) : mx_G r (t_Mo_receive zz) 28 ls st h c n = (o_get 10 10) r (mx_G r (t_Mo_receive zz)) 28 ls st h c n := mx_G_eq (tm_Mo_receive zz) r 28 ls st h c n
theorem st_Mo_receive_31 (zz : Nat × Nat) (r : mx_T) (ls : mx_L) (st : List Value) (h : mx_H) (c n : Nat) : mx_G r (t_Mo_receive zz) 31 ls st h c n = (o_iload 1 2) r (mx_G r (t_Mo_receive zz)) 31 ls st h c n := mx_G_eq (tm_Mo_receive zz) r 31 ls st h c n
theorem st_Mo_receive_32 (zz : Nat × Nat) (r : mx_T) (ls : mx_L) (st : List Value) (h : mx_H) (c n : Nat) : mx_G r (t_Mo_receive zz) 32 ls st h c n = (o_iald .int) r (mx_G r (t_Mo_receive zz)) 32 ls st h c n := mx_G_eq (tm_Mo_receive zz) r 32 ls st h c n
theorem st_Mo_receive_33 (zz : Nat × Nat) (r : mx_T) (ls : mx_L) (st : List Value) (h : mx_H) (c n : Nat) : mx_G r (t_Mo_receive zz) 33 ls st h c n = (o_icmp 79 (fun x y => y ≤ x)) r (mx_G r (t_Mo_receive zz)) 33 ls st h c n := mx_G_eq (tm_Mo_receive zz) r 33 ls st h c n
theorem st_Mo_receive_36 (zz : Nat × Nat) (r : mx_T) (ls : mx_L) (st : List Value) (h : mx_H) (c n : Nat) : mx_G r (t_Mo_receive zz) 36 ls st h c n = (o_aload 1 0) r (mx_G r (t_Mo_receive zz)) 36 ls st h c n := mx_G_eq (tm_Mo_receive zz) r 36 ls st h c n
theorem st_Mo_receive_37 (zz : Nat × Nat) (r : mx_T) (ls : mx_L) (st : List Value) (h : mx_H) (c n : Nat) : mx_G r (t_Mo_receive zz) 37 ls st h c n = (o_get 10 9) r (mx_G r (t_Mo_receive zz)) 37 ls st h c n := mx_G_eq (tm_Mo_receive zz) r 37 ls st h c n
theorem st_Mo_receive_40 (zz : Nat × Nat) (r : mx_T) (ls : mx_L) (st : List Value) (h : mx_H) (c n : Nat) : mx_G r (t_Mo_receive zz) 40 ls st h c n = (o_iload 1 2) r (mx_G r (t_Mo_receive zz)) 40 ls st h c n := mx_G_eq (tm_Mo_receive zz) r 40 ls st h c n
theorem st_Mo_receive_41 (zz : Nat × Nat) (r : mx_T) (ls : mx_L) (st : List Value) (h : mx_H) (c n : Nat) : mx_G r (t_Mo_receive zz) 41 ls st h c n = (o_iald .int) r (mx_G r (t_Mo_receive zz)) 41 ls st h c n := mx_G_eq (tm_Mo_receive zz) r 41 ls st h c n
theorem st_Mo_receive_42 (zz : Nat × Nat) (r : mx_T) (ls : mx_L) (st : List Value) (h : mx_H) (c n : Nat) : mx_G r (t_Mo_receive zz) 42 ls st h c n = (o_iload 2 4) r (mx_G r (t_Mo_receive zz)) 42 ls st h c n := mx_G_eq (tm_Mo_receive zz) r 42 ls st h c n
theorem st_Mo_receive_44 (zz : Nat × Nat) (r : mx_T) (ls : mx_L) (st : List Value) (h : mx_H) (c n : Nat) : mx_G r (t_Mo_receive zz) 44 ls st h c n = (o_ii (fun x y => x + y)) r (mx_G r (t_Mo_receive zz)) 44 ls st h c n := mx_G_eq (tm_Mo_receive zz) r 44 ls st h c n
theorem st_Mo_receive_45 (zz : Nat × Nat) (r : mx_T) (ls : mx_L) (st : List Value) (h : mx_H) (c n : Nat) : mx_G r (t_Mo_receive zz) 45 ls st h c n = (o_istore 2 5) r (mx_G r (t_Mo_receive zz)) 45 ls st h c n := mx_G_eq (tm_Mo_receive zz) r 45 ls st h c n
theorem st_Mo_receive_47 (zz : Nat × Nat) (r : mx_T) (ls : mx_L) (st : List Value) (h : mx_H) (c n : Nat) : mx_G r (t_Mo_receive zz) 47 ls st h c n = (o_iload 1 3) r (mx_G r (t_Mo_receive zz)) 47 ls st h c n := mx_G_eq (tm_Mo_receive zz) r 47 ls st h c n
theorem st_Mo_receive_48 (zz : Nat × Nat) (r : mx_T) (ls : mx_L) (st : List Value) (h : mx_H) (c n : Nat) : mx_G r (t_Mo_receive zz) 48 ls st h c n = (o_aload 1 0) r (mx_G r (t_Mo_receive zz)) 48 ls st h c n := mx_G_eq (tm_Mo_receive zz) r 48 ls st h c n
theorem st_Mo_receive_49 (zz : Nat × Nat) (r : mx_T) (ls : mx_L) (st : List Value) (h : mx_H) (c n : Nat) : mx_G r (t_Mo_receive zz) 49 ls st h c n = (o_get 10 35) r (mx_G r (t_Mo_receive zz)) 49 ls st h c n := mx_G_eq (tm_Mo_receive zz) r 49 ls st h c n
theorem st_Mo_receive_52 (zz : Nat × Nat) (r : mx_T) (ls : mx_L) (st : List Value) (h : mx_H) (c n : Nat) : mx_G r (t_Mo_receive zz) 52 ls st h c n = (o_push 1 (.int 1)) r (mx_G r (t_Mo_receive zz)) 52 ls st h c n := mx_G_eq (tm_Mo_receive zz) r 52 ls st h c n
theorem st_Mo_receive_53 (zz : Nat × Nat) (r : mx_T) (ls : mx_L) (st : List Value) (h : mx_H) (c n : Nat) : mx_G r (t_Mo_receive zz) 53 ls st h c n = (o_iload 2 5) r (mx_G r (t_Mo_receive zz)) 53 ls st h c n := mx_G_eq (tm_Mo_receive zz) r 53 ls st h c n
theorem st_Mo_receive_55 (zz : Nat × Nat) (r : mx_T) (ls : mx_L) (st : List Value) (h : mx_H) (c n : Nat) : mx_G r (t_Mo_receive zz) 55 ls st h c n = (o_push 2 (.int 8)) r (mx_G r (t_Mo_receive zz)) 55 ls st h c n := mx_G_eq (tm_Mo_receive zz) r 55 ls st h c n
theorem st_Mo_receive_57 (zz : Nat × Nat) (r : mx_T) (ls : mx_L) (st : List Value) (h : mx_H) (c n : Nat) : mx_G r (t_Mo_receive zz) 57 ls st h c n = (o_iiz (fun x y => x / y)) r (mx_G r (t_Mo_receive zz)) 57 ls st h c n := mx_G_eq (tm_Mo_receive zz) r 57 ls st h c n
theorem st_Mo_receive_58 (zz : Nat × Nat) (r : mx_T) (ls : mx_L) (st : List Value) (h : mx_H) (c n : Nat) : mx_G r (t_Mo_receive zz) 58 ls st h c n = (o_ii (fun x y => x + y)) r (mx_G r (t_Mo_receive zz)) 58 ls st h c n := mx_G_eq (tm_Mo_receive zz) r 58 ls st h c n
theorem st_Mo_receive_59 (zz : Nat × Nat) (r : mx_T) (ls : mx_L) (st : List Value) (h : mx_H) (c n : Nat) : mx_G r (t_Mo_receive zz) 59 ls st h c n = (o_iald .int) r (mx_G r (t_Mo_receive zz)) 59 ls st h c n := mx_G_eq (tm_Mo_receive zz) r 59 ls st h c n
theorem st_Mo_receive_60 (zz : Nat × Nat) (r : mx_T) (ls : mx_L) (st : List Value) (h : mx_H) (c n : Nat) : mx_G r (t_Mo_receive zz) 60 ls st h c n = (o_iload 2 5) r (mx_G r (t_Mo_receive zz)) 60 ls st h c n := mx_G_eq (tm_Mo_receive zz) r 60 ls st h c n
theorem st_Mo_receive_62 (zz : Nat × Nat) (r : mx_T) (ls : mx_L) (st : List Value) (h : mx_H) (c n : Nat) : mx_G r (t_Mo_receive zz) 62 ls st h c n = (o_push 2 (.int 8)) r (mx_G r (t_Mo_receive zz)) 62 ls st h c n := mx_G_eq (tm_Mo_receive zz) r 62 ls st h c n
theorem st_Mo_receive_64 (zz : Nat × Nat) (r : mx_T) (ls : mx_L) (st : List Value) (h : mx_H) (c n : Nat) : mx_G r (t_Mo_receive zz) 64 ls st h c n = (o_iiz (fun x y => x - x / y * y)) r (mx_G r (t_Mo_receive zz)) 64 ls st h c n := mx_G_eq (tm_Mo_receive zz) r 64 ls st h c n
theorem st_Mo_receive_65 (zz : Nat × Nat) (r : mx_T) (ls : mx_L) (st : List Value) (h : mx_H) (c n : Nat) : mx_G r (t_Mo_receive zz) 65 ls st h c n = (o_ii (fun x y => x >>> (y &&& 31))) r (mx_G r (t_Mo_receive zz)) 65 ls st h c n := mx_G_eq (tm_Mo_receive zz) r 65 ls st h c n
theorem st_Mo_receive_66 (zz : Nat × Nat) (r : mx_T) (ls : mx_L) (st : List Value) (h : mx_H) (c n : Nat) : mx_G r (t_Mo_receive zz) 66 ls st h c n = (o_push 1 (.int 1)) r (mx_G r (t_Mo_receive zz)) 66 ls st h c n := mx_G_eq (tm_Mo_receive zz) r 66 ls st h c n
theorem st_Mo_receive_67 (zz : Nat × Nat) (r : mx_T) (ls : mx_L) (st : List Value) (h : mx_H) (c n : Nat) : mx_G r (t_Mo_receive zz) 67 ls st h c n = (o_ii (fun x y => x &&& y)) r (mx_G r (t_Mo_receive zz)) 67 ls st h c n := mx_G_eq (tm_Mo_receive zz) r 67 ls st h c n
theorem st_Mo_receive_68 (zz : Nat × Nat) (r : mx_T) (ls : mx_L) (st : List Value) (h : mx_H) (c n : Nat) : mx_G r (t_Mo_receive zz) 68 ls st h c n = (o_iload 2 4) r (mx_G r (t_Mo_receive zz)) 68 ls st h c n := mx_G_eq (tm_Mo_receive zz) r 68 ls st h c n
theorem st_Mo_receive_70 (zz : Nat × Nat) (r : mx_T) (ls : mx_L) (st : List Value) (h : mx_H) (c n : Nat) : mx_G r (t_Mo_receive zz) 70 ls st h c n = (o_ii (fun x y => x <<< (y &&& 31))) r (mx_G r (t_Mo_receive zz)) 70 ls st h c n := mx_G_eq (tm_Mo_receive zz) r 70 ls st h c n
theorem st_Mo_receive_71 (zz : Nat × Nat) (r : mx_T) (ls : mx_L) (st : List Value) (h : mx_H) (c n : Nat) : mx_G r (t_Mo_receive zz) 71 ls st h c n = (o_ii (fun x y => x + y)) r (mx_G r (t_Mo_receive zz)) 71 ls st h c n := mx_G_eq (tm_Mo_receive zz) r 71 ls st h c n
theorem st_Mo_receive_72 (zz : Nat × Nat) (r : mx_T) (ls : mx_L) (st : List Value) (h : mx_H) (c n : Nat) : mx_G r (t_Mo_receive zz) 72 ls st h c n = (o_istore 1 3) r (mx_G r (t_Mo_receive zz)) 72 ls st h c n := mx_G_eq (tm_Mo_receive zz) r 72 ls st h c n
theorem st_Mo_receive_73 (zz : Nat × Nat) (r : mx_T) (ls : mx_L) (st : List Value) (h : mx_H) (c n : Nat) : mx_G r (t_Mo_receive zz) 73 ls st h c n = (o_iinc 4 1) r (mx_G r (t_Mo_receive zz)) 73 ls st h c n := mx_G_eq (tm_Mo_receive zz) r 73 ls st h c n
theorem st_Mo_receive_76 (zz : Nat × Nat) (r : mx_T) (ls : mx_L) (st : List Value) (h : mx_H) (c n : Nat) : mx_G r (t_Mo_receive zz) 76 ls st h c n = (o_goto 25) r (mx_G r (t_Mo_receive zz)) 76 ls st h c n := mx_G_eq (tm_Mo_receive zz) r 76 ls st h c n
theorem st_Mo_receive_79 (zz : Nat × Nat) (r : mx_T) (ls : mx_L) (st : List Value) (h : mx_H) (c n : Nat) : mx_G r (t_Mo_receive zz) 79 ls st h c n = (o_aload 1 0) r (mx_G r (t_Mo_receive zz)) 79 ls st h c n := mx_G_eq (tm_Mo_receive zz) r 79 ls st h c n
theorem st_Mo_receive_80 (zz : Nat × Nat) (r : mx_T) (ls : mx_L) (st : List Value) (h : mx_H) (c n : Nat) : mx_G r (t_Mo_receive zz) 80 ls st h c n = (o_get 10 12) r (mx_G r (t_Mo_receive zz)) 80 ls st h c n := mx_G_eq (tm_Mo_receive zz) r 80 ls st h c n
theorem st_Mo_receive_83 (zz : Nat × Nat) (r : mx_T) (ls : mx_L) (st : List Value) (h : mx_H) (c n : Nat) : mx_G r (t_Mo_receive zz) 83 ls st h c n = (o_iload 1 2) r (mx_G r (t_Mo_receive zz)) 83 ls st h c n := mx_G_eq (tm_Mo_receive zz) r 83 ls st h c n
theorem st_Mo_receive_84 (zz : Nat × Nat) (r : mx_T) (ls : mx_L) (st : List Value) (h : mx_H) (c n : Nat) : mx_G r (t_Mo_receive zz) 84 ls st h c n = (o_iload 1 3) r (mx_G r (t_Mo_receive zz)) 84 ls st h c n := mx_G_eq (tm_Mo_receive zz) r 84 ls st h c n
theorem st_Mo_receive_85 (zz : Nat × Nat) (r : mx_T) (ls : mx_L) (st : List Value) (h : mx_H) (c n : Nat) : mx_G r (t_Mo_receive zz) 85 ls st h c n = (o_iast .int (fun x => x)) r (mx_G r (t_Mo_receive zz)) 85 ls st h c n := mx_G_eq (tm_Mo_receive zz) r 85 ls st h c n
theorem st_Mo_receive_86 (zz : Nat × Nat) (r : mx_T) (ls : mx_L) (st : List Value) (h : mx_H) (c n : Nat) : mx_G r (t_Mo_receive zz) 86 ls st h c n = (o_aload 1 0) r (mx_G r (t_Mo_receive zz)) 86 ls st h c n := mx_G_eq (tm_Mo_receive zz) r 86 ls st h c n
theorem st_Mo_receive_87 (zz : Nat × Nat) (r : mx_T) (ls : mx_L) (st : List Value) (h : mx_H) (c n : Nat) : mx_G r (t_Mo_receive zz) 87 ls st h c n = (o_get 10 13) r (mx_G r (t_Mo_receive zz)) 87 ls st h c n := mx_G_eq (tm_Mo_receive zz) r 87 ls st h c n
theorem st_Mo_receive_90 (zz : Nat × Nat) (r : mx_T) (ls : mx_L) (st : List Value) (h : mx_H) (c n : Nat) : mx_G r (t_Mo_receive zz) 90 ls st h c n = (o_iload 1 2) r (mx_G r (t_Mo_receive zz)) 90 ls st h c n := mx_G_eq (tm_Mo_receive zz) r 90 ls st h c n
theorem st_Mo_receive_91 (zz : Nat × Nat) (r : mx_T) (ls : mx_L) (st : List Value) (h : mx_H) (c n : Nat) : mx_G r (t_Mo_receive zz) 91 ls st h c n = (o_push 1 (.int 1)) r (mx_G r (t_Mo_receive zz)) 91 ls st h c n := mx_G_eq (tm_Mo_receive zz) r 91 ls st h c n
theorem st_Mo_receive_92 (zz : Nat × Nat) (r : mx_T) (ls : mx_L) (st : List Value) (h : mx_H) (c n : Nat) : mx_G r (t_Mo_receive zz) 92 ls st h c n = (o_iast .boolean (vp_nar .boolean)) r (mx_G r (t_Mo_receive zz)) 92 ls st h c n := mx_G_eq (tm_Mo_receive zz) r 92 ls st h c n
theorem st_Mo_receive_93 (zz : Nat × Nat) (r : mx_T) (ls : mx_L) (st : List Value) (h : mx_H) (c n : Nat) : mx_G r (t_Mo_receive zz) 93 ls st h c n = (o_iinc 2 1) r (mx_G r (t_Mo_receive zz)) 93 ls st h c n := mx_G_eq (tm_Mo_receive zz) r 93 ls st h c n
theorem st_Mo_receive_96 (zz : Nat × Nat) (r : mx_T) (ls : mx_L) (st : List Value) (h : mx_H) (c n : Nat) : mx_G r (t_Mo_receive zz) 96 ls st h c n = (o_goto 2) r (mx_G r (t_Mo_receive zz)) 96 ls st h c n := mx_G_eq (tm_Mo_receive zz) r 96 ls st h c n
theorem st_Mo_receive_99 (zz : Nat × Nat) (r : mx_T) (ls : mx_L) (st : List Value) (h : mx_H) (c n : Nat) : mx_G r (t_Mo_receive zz) 99 ls st h c n = (o_aload 1 0) r (mx_G r (t_Mo_receive zz)) 99 ls st h c n := mx_G_eq (tm_Mo_receive zz) r 99 ls st h c n
theorem st_Mo_receive_100 (zz : Nat × Nat) (r : mx_T) (ls : mx_L) (st : List Value) (h : mx_H) (c n : Nat) : mx_G r (t_Mo_receive zz) 100 ls st h c n = (o_get 10 5) r (mx_G r (t_Mo_receive zz)) 100 ls st h c n := mx_G_eq (tm_Mo_receive zz) r 100 ls st h c n
theorem st_Mo_receive_103 (zz : Nat × Nat) (r : mx_T) (ls : mx_L) (st : List Value) (h : mx_H) (c n : Nat) : mx_G r (t_Mo_receive zz) 103 ls st h c n = (o_iload 1 1) r (mx_G r (t_Mo_receive zz)) 103 ls st h c n := mx_G_eq (tm_Mo_receive zz) r 103 ls st h c n
theorem st_Mo_receive_104 (zz : Nat × Nat) (r : mx_T) (ls : mx_L) (st : List Value) (h : mx_H) (c n : Nat) : mx_G r (t_Mo_receive zz) 104 ls st h c n = (o_push 1 (.int 0)) r (mx_G r (t_Mo_receive zz)) 104 ls st h c n := mx_G_eq (tm_Mo_receive zz) r 104 ls st h c n
theorem st_Mo_receive_105 (zz : Nat × Nat) (r : mx_T) (ls : mx_L) (st : List Value) (h : mx_H) (c n : Nat) : mx_G r (t_Mo_receive zz) 105 ls st h c n = (o_iast .boolean (vp_nar .boolean)) r (mx_G r (t_Mo_receive zz)) 105 ls st h c n := mx_G_eq (tm_Mo_receive zz) r 105 ls st h c n
theorem st_Mo_receive_106 (zz : Nat × Nat) (r : mx_T) (ls : mx_L) (st : List Value) (h : mx_H) (c n : Nat) : mx_G r (t_Mo_receive zz) 106 ls st h c n = (o_vret) r (mx_G r (t_Mo_receive zz)) 106 ls st h c n := mx_G_eq (tm_Mo_receive zz) r 106 ls st h c n
theorem d_Mo_own_0 : decode c_Mo_own 0 = .ok (.aload_n 0, 1) := by decide +kernel
theorem d_Mo_own_1 : decode c_Mo_own 1 = .ok (.getfield 75, 3) := by decide +kernel
theorem d_Mo_own_4 : decode c_Mo_own 4 = .ok (.iconst 0, 1) := by decide +kernel
theorem d_Mo_own_5 : decode c_Mo_own 5 = .ok (.aload_n 0, 1) := by decide +kernel
theorem d_Mo_own_6 : decode c_Mo_own 6 = .ok (.getfield 7, 3) := by decide +kernel
theorem d_Mo_own_9 : decode c_Mo_own 9 = .ok (.iload_n 1, 1) := by decide +kernel
theorem d_Mo_own_10 : decode c_Mo_own 10 = .ok (.iaload, 1) := by decide +kernel
theorem d_Mo_own_11 : decode c_Mo_own 11 = .ok (.invokestatic 143, 3) := by decide +kernel
theorem d_Mo_own_14 : decode c_Mo_own 14 = .ok (.iastore, 1) := by decide +kernel
theorem d_Mo_own_15 : decode c_Mo_own 15 = .ok (.aload_n 0, 1) := by decide +kernel
theorem d_Mo_own_16 : decode c_Mo_own 16 = .ok (.iconst 1, 1) := by decide +kernel
theorem d_Mo_own_17 : decode c_Mo_own 17 = .ok (.putfield 150, 3) := by decide +kernel
theorem d_Mo_own_20 : decode c_Mo_own 20 = .ok (.aload_n 0, 1) := by decide +kernel
theorem d_Mo_own_21 : decode c_Mo_own 21 = .ok (.iload_n 1, 1) := by decide +kernel
theorem d_Mo_own_22 : decode c_Mo_own 22 = .ok (.invokevirtual 156, 3) := by decide +kernel
theorem d_Mo_own_25 : decode c_Mo_own 25 = .ok (.aload_n 0, 1) := by decide +kernel
theorem d_Mo_own_26 : decode c_Mo_own 26 = .ok (.invokevirtual 160, 3) := by decide +kernel
theorem d_Mo_own_29 : decode c_Mo_own 29 = .ok (.aload_n 0, 1) := by decide +kernel
theorem d_Mo_own_30 : decode c_Mo_own 30 = .ok (.aload_n 0, 1) := by decide +kernel
theorem d_Mo_own_31 : decode c_Mo_own 31 = .ok (.getfield 16, 3) := by decide +kernel
theorem d_Mo_own_34 : decode c_Mo_own 34 = .ok (.iload_n 1, 1) := by decide +kernel
theorem d_Mo_own_35 : decode c_Mo_own 35 = .ok (.iaload, 1) := by decide +kernel
theorem d_Mo_own_36 : decode c_Mo_own 36 = .ok (.aload_n 0, 1) := by decide +kernel
theorem d_Mo_own_37 : decode c_Mo_own 37 = .ok (.getfield 19, 3) := by decide +kernel
theorem d_Mo_own_40 : decode c_Mo_own 40 = .ok (.iload_n 1, 1) := by decide +kernel
theorem d_Mo_own_41 : decode c_Mo_own 41 = .ok (.baload, 1) := by decide +kernel
theorem d_Mo_own_42 : decode c_Mo_own 42 = .ok (.invokevirtual 163, 3) := by decide +kernel
theorem d_Mo_own_45 : decode c_Mo_own 45 = .ok (.ifCond .ne 5, 3) := by decide +kernel
theorem d_Mo_own_48 : decode c_Mo_own 48 = .ok (.iconst 3, 1) := by decide +kernel
theorem d_Mo_own_49 : decode c_Mo_own 49 = .ok (.ireturn, 1) := by decide +kernel
theorem d_Mo_own_50 : decode c_Mo_own 50 = .ok (.aload_n 0, 1) := by decide +kernel
theorem d_Mo_own_51 : decode c_Mo_own 51 = .ok (.iload_n 1, 1) := by decide +kernel
theorem d_Mo_own_52 : decode c_Mo_own 52 = .ok (.invokevirtual 167, 3) := by decide +kernel
theorem d_Mo_own_55 : decode c_Mo_own 55 = .ok (.iconst 1, 1) := by decide +kernel
theorem d_Mo_own_56 : decode c_Mo_own 56 = .ok (.ireturn, 1) := by decide +kernel
def t_Mo_own (zz : Nat × Nat) : List (Nat × mx_O) := [(0, o_aload 1 0),
  (1, o_get 10 35),
  (4, o_push 1 (.int 0)),
  (5, o_aload 1 0),
  (6, o_get 10 1),
  (9, o_iload 1 1),
  (10, o_iald .int),
  (11, o_call 0 0 1 0 0 (fun _ _ => True) (S_Mo_guarded zz)),
  (14, o_iast .int (fun x => x)),
  (15, o_aload 1 0),
  (16, o_push 1 (.int 1)),
  (17, o_put 10 34 mx_vI),
  (20, o_aload 1 0),
  (21, o_iload 1 1),
  (22, o_call 0 0 2 0 0 (mx_rv 10) (S_Mo_respond zz)),
  (25, o_aload 1 0),
  (26, o_call 0 0 1 0 0 (mx_rv 10) (S_Mo_disturb zz)),
  (29, o_aload 1 0),
  (30, o_aload 1 0),
  (31, o_get 10 3),
  (34, o_iload 1 1),
  (35, o_iald .int),
  (36, o_aload 1 0),
  (37, o_get 10 4),
  (40, o_iload 1 1),
  (41, o_iald .boolean),
  (42, o_call 0 0 3 0 0 (mx_rv 10) (S_Mo_sound zz)),
  (45, o_if 50 (fun x => ¬ x = 0)),
  (48, o_push 1 (.int 3)),
  (49, o_iret),
  (50, o_aload 1 0),
  (51, o_iload 1 1),
  (52, o_call 0 0 2 0 0 (mx_rv 10) (S_Mo_receive zz)),
  (55, o_push 1 (.int 1)),
  (56, o_iret)]
set_option maxRecDepth 100000 in
theorem tm_Mo_own (zz : Nat × Nat) : mx_All (fun _ o => mx_Mono o) (t_Mo_own zz) := by
  refine mx_all_cons (mo_st) ?_
  refine mx_all_cons (mo_st) ?_
  refine mx_all_cons (mo_st) ?_
  refine mx_all_cons (mo_st) ?_
  refine mx_all_cons (mo_st) ?_
  refine mx_all_cons (mo_st) ?_
  refine mx_all_cons (mo_sc) ?_
  refine mx_all_cons (mo_call (sm_Mo_guarded zz)) ?_
  refine mx_all_cons (mo_sc) ?_
  refine mx_all_cons (mo_st) ?_
  refine mx_all_cons (mo_st) ?_
  refine mx_all_cons (mo_sc) ?_
  refine mx_all_cons (mo_st) ?_
  refine mx_all_cons (mo_st) ?_
  refine mx_all_cons (mo_call (sm_Mo_respond zz)) ?_
  refine mx_all_cons (mo_st) ?_
  refine mx_all_cons (mo_call (sm_Mo_disturb zz)) ?_
  refine mx_all_cons (mo_st) ?_
  refine mx_all_cons (mo_st) ?_
  refine mx_all_cons (mo_st) ?_
  refine mx_all_cons (mo_st) ?_
  refine mx_all_cons (mo_sc) ?_
  refine mx_all_cons (mo_st) ?_
  refine mx_all_cons (mo_st) ?_
  refine mx_all_cons (mo_st) ?_
  refine mx_all_cons (mo_sc) ?_
  refine mx_all_cons (mo_call (sm_Mo_sound zz)) ?_
  refine mx_all_cons (mo_br) ?_
  refine mx_all_cons (mo_st) ?_
  refine mx_all_cons (mo_ret) ?_
  refine mx_all_cons (mo_st) ?_
  refine mx_all_cons (mo_st) ?_
  refine mx_all_cons (mo_call (sm_Mo_receive zz)) ?_
  refine mx_all_cons (mo_st) ?_
  refine mx_all_cons (mo_ret) ?_
  exact mx_all_nil
def S_Mo_own (zz : Nat × Nat) : mx_Sp := mx_S 2 0 0 (t_Mo_own zz)
theorem sm_Mo_own (zz : Nat × Nat) : mx_SMono (S_Mo_own zz) := mx_S_mono (tm_Mo_own zz)
abbrev rm_Mo_own : Room := { frames := 4, cells := 0, slots := 0, locals := 93 }
set_option maxHeartbeats 4000000 in
set_option maxRecDepth 100000 in
theorem m_Mo_own (l : Launch) (zz : Nat × Nat) : mx_Met l y_Mo_own (wsOf y_Mo_own c_Mo_own 2 (some .int)) rm_Mo_own wcl (mx_Z zz) 0 0 (S_Mo_own zz) := by
  refine mx_met (cc := c_Mo_own) (ret := (some .int)) (by decide) rfl ?_
  intro p e s m args below meth c D A Post X hz hr hlk hnm
  have hm : ∀ w ∈ mw, w.before args s = true := fun w h => X.1.2.2.2.2 w (List.mem_cons_of_mem _ h)
  refine mx_all_cons (ok_aload (fun hl kk => lv_aload_n X.1.1 X.1.2.1 d_Mo_own_0 rfl hl kk) (fun hl kk => lv_aload_nN X.1.1 X.1.2.1 d_Mo_own_0 rfl hl kk)) ?_
  refine mx_all_cons (ok_get (C := "HeaderScheduleModel") (T := T_Mo) (N := 40) X (mw_up in_Mo) rfl 35 (by decide) (hm _ w712) (fun _ h9 => h9) d_Mo_own_1) ?_
  refine mx_all_cons (ok_push (fun kk => lv_iconst X.1.1 X.1.2.1 d_Mo_own_4 (by decide) kk)) ?_
  refine mx_all_cons (ok_aload (fun hl kk => lv_aload_n X.1.1 X.1.2.1 d_Mo_own_5 rfl hl kk) (fun hl kk => lv_aload_nN X.1.1 X.1.2.1 d_Mo_own_5 rfl hl kk)) ?_
  refine mx_all_cons (ok_get (C := "HeaderScheduleModel") (T := T_Mo) (N := 40) X (mw_up in_Mo) rfl 1 (by decide) (hm _ w678) (fun _ h9 => h9) d_Mo_own_6) ?_
  refine mx_all_cons (ok_iload (fun hl kk => lv_iload_n X.1.1 X.1.2.1 d_Mo_own_9 rfl hl kk)) ?_
  refine mx_all_cons (ok_iald X d_Mo_own_10) ?_
  refine mx_all_cons (ok_callS X (mx_Zok_Z zz) hz ⟨(Nat.le_of_ble_eq_true rfl), (Nat.le_of_ble_eq_true rfl)⟩ (m_Mo_guarded l zz) ⟨mx_cwB 1 hm w891 w889 w40 rfl rfl (by decide +kernel) ⟨(Nat.le_of_ble_eq_true rfl), (Nat.le_of_ble_eq_true rfl)⟩, (hm _ w890)⟩ d_Mo_own_11) ?_
  refine mx_all_cons (ok_iast X d_Mo_own_14) ?_
  refine mx_all_cons (ok_aload (fun hl kk => lv_aload_n X.1.1 X.1.2.1 d_Mo_own_15 rfl hl kk) (fun hl kk => lv_aload_nN X.1.1 X.1.2.1 d_Mo_own_15 rfl hl kk)) ?_
  refine mx_all_cons (ok_push (fun kk => lv_iconst X.1.1 X.1.2.1 d_Mo_own_16 (by decide) kk)) ?_
  refine mx_all_cons (ok_put (C := "HeaderScheduleModel") (T := T_Mo) (N := 40) X (mw_up in_Mo) ty_Mo tyok_Mo nm_Mo rfl 34 (by decide) (hm _ w711) (fun _ h9 => h9) rfl (tyok_Mo 34 (by decide)) mx_vI_ok d_Mo_own_17) ?_
  refine mx_all_cons (ok_aload (fun hl kk => lv_aload_n X.1.1 X.1.2.1 d_Mo_own_20 rfl hl kk) (fun hl kk => lv_aload_nN X.1.1 X.1.2.1 d_Mo_own_20 rfl hl kk)) ?_
  refine mx_all_cons (ok_iload (fun hl kk => lv_iload_n X.1.1 X.1.2.1 d_Mo_own_21 rfl hl kk)) ?_
  refine mx_all_cons (ok_callV (C := "HeaderScheduleModel") (T := T_Mo) (N := 40) X (mx_Zok_Z zz) hz ⟨(Nat.le_of_ble_eq_true rfl), (Nat.le_of_ble_eq_true rfl)⟩ (m_Mo_respond l zz) ⟨mx_cwB 1 hm w898 w895 w40 rfl rfl (by decide +kernel) ⟨(Nat.le_of_ble_eq_true rfl), (Nat.le_of_ble_eq_true rfl)⟩, (hm _ w897), hm _ w25⟩ rfl d_Mo_own_22) ?_
  refine mx_all_cons (ok_aload (fun hl kk => lv_aload_n X.1.1 X.1.2.1 d_Mo_own_25 rfl hl kk) (fun hl kk => lv_aload_nN X.1.1 X.1.2.1 d_Mo_own_25 rfl hl kk)) ?_
  refine mx_all_cons (ok_callV (C := "HeaderScheduleModel") (T := T_Mo) (N := 40) X (mx_Zok_Z zz) hz ⟨(Nat.le_of_ble_eq_true rfl), (Nat.le_of_ble_eq_true rfl)⟩ (m_Mo_disturb l zz) ⟨mx_cwB 0 hm w909 w906 w40 rfl rfl (by decide +kernel) ⟨(Nat.le_of_ble_eq_true rfl), (Nat.le_of_ble_eq_true rfl)⟩, (hm _ w908), hm _ w27⟩ rfl d_Mo_own_26) ?_
  refine mx_all_cons (ok_aload (fun hl kk => lv_aload_n X.1.1 X.1.2.1 d_Mo_own_29 rfl hl kk) (fun hl kk => lv_aload_nN X.1.1 X.1.2.1 d_Mo_own_29 rfl hl kk)) ?_
  refine mx_all_cons (ok_aload (fun hl kk => lv_aload_n X.1.1 X.1.2.1 d_Mo_own_30 rfl hl kk) (fun hl kk => lv_aload_nN X.1.1 X.1.2.1 d_Mo_own_30 rfl hl kk)) ?_
  refine mx_all_cons (ok_get (C := "HeaderScheduleModel") (T := T_Mo) (N := 40) X (mw_up in_Mo) rfl 3 (by decide) (hm _ w680) (fun _ h9 => h9) d_Mo_own_31) ?_
  refine mx_all_cons (ok_iload (fun hl kk => lv_iload_n X.1.1 X.1.2.1 d_Mo_own_34 rfl hl kk)) ?_
  refine mx_all_cons (ok_iald X d_Mo_own_35) ?_
  refine mx_all_cons (ok_aload (fun hl kk => lv_aload_n X.1.1 X.1.2.1 d_Mo_own_36 rfl hl kk) (fun hl kk => lv_aload_nN X.1.1 X.1.2.1 d_Mo_own_36 rfl hl kk)) ?_
  refine mx_all_cons (ok_get (C := "HeaderScheduleModel") (T := T_Mo) (N := 40) X (mw_up in_Mo) rfl 4 (by decide) (hm _ w681) (fun _ h9 => h9) d_Mo_own_37) ?_
  refine mx_all_cons (ok_iload (fun hl kk => lv_iload_n X.1.1 X.1.2.1 d_Mo_own_40 rfl hl kk)) ?_
  refine mx_all_cons (ok_zald X d_Mo_own_41) ?_
  refine mx_all_cons (ok_callV (C := "HeaderScheduleModel") (T := T_Mo) (N := 40) X (mx_Zok_Z zz) hz ⟨(Nat.le_of_ble_eq_true rfl), (Nat.le_of_ble_eq_true rfl)⟩ (m_Mo_sound l zz) ⟨mx_cwB 2 hm w913 w910 w40 rfl rfl (by decide +kernel) ⟨(Nat.le_of_ble_eq_true rfl), (Nat.le_of_ble_eq_true rfl)⟩, (hm _ w912), hm _ w28⟩ rfl d_Mo_own_42) ?_
  refine mx_all_cons (ok_if (fun kt kf => lv_if_ne X.1.1 X.1.2.1 d_Mo_own_45 (by decide) kt (fun z => kf (fun g => g z)))) ?_
  refine mx_all_cons (ok_push (fun kk => lv_iconst X.1.1 X.1.2.1 d_Mo_own_48 (by decide) kk)) ?_
  refine mx_all_cons (ok_iret X hr hlk d_Mo_own_49) ?_
  refine mx_all_cons (ok_aload (fun hl kk => lv_aload_n X.1.1 X.1.2.1 d_Mo_own_50 rfl hl kk) (fun hl kk => lv_aload_nN X.1.1 X.1.2.1 d_Mo_own_50 rfl hl kk)) ?_
  refine mx_all_cons (ok_iload (fun hl kk => lv_iload_n X.1.1 X.1.2.1 d_Mo_own_51 rfl hl kk)) ?_
  refine mx_all_cons (ok_callV (C := "HeaderScheduleModel") (T := T_Mo) (N := 40) X (mx_Zok_Z zz) hz ⟨(Nat.le_of_ble_eq_true rfl), (Nat.le_of_ble_eq_true rfl)⟩ (m_Mo_receive l zz) ⟨mx_cwB 1 hm w917 w914 w40 rfl rfl (by decide +kernel) ⟨(Nat.le_of_ble_eq_true rfl), (Nat.le_of_ble_eq_true rfl)⟩, (hm _ w916), hm _ w29⟩ rfl d_Mo_own_52) ?_
  refine mx_all_cons (ok_push (fun kk => lv_iconst X.1.1 X.1.2.1 d_Mo_own_55 (by decide) kk)) ?_
  refine mx_all_cons (ok_iret X hr hlk d_Mo_own_56) ?_
  exact mx_all_nil
theorem st_Mo_own_0 (zz : Nat × Nat) (r : mx_T) (ls : mx_L) (st : List Value) (h : mx_H) (c n : Nat) : mx_G r (t_Mo_own zz) 0 ls st h c n = (o_aload 1 0) r (mx_G r (t_Mo_own zz)) 0 ls st h c n := mx_G_eq (tm_Mo_own zz) r 0 ls st h c n
theorem st_Mo_own_1 (zz : Nat × Nat) (r : mx_T) (ls : mx_L) (st : List Value) (h : mx_H) (c n : Nat) : mx_G r (t_Mo_own zz) 1 ls st h c n = (o_get 10 35) r (mx_G r (t_Mo_own zz)) 1 ls st h c n := mx_G_eq (tm_Mo_own zz) r 1 ls st h c n
theorem st_Mo_own_4 (zz : Nat × Nat) (r : mx_T) (ls : mx_L) (st : List Value) (h : mx_H) (c n : Nat) : mx_G r (t_Mo_own zz) 4 ls st h c n = (o_push 1 (.int 0)) r (mx_G r (t_Mo_own zz)) 4 ls st h c n := mx_G_eq (tm_Mo_own zz) r 4 ls st h c n
theorem st_Mo_own_5 (zz : Nat × Nat) (r : mx_T) (ls : mx_L) (st : List Value) (h : mx_H) (c n : Nat) : mx_G r (t_Mo_own zz) 5 ls st h c n = (o_aload 1 0) r (mx_G r (t_Mo_own zz)) 5 ls st h c n := mx_G_eq (tm_Mo_own zz) r 5 ls st h c n
theorem st_Mo_own_6 (zz : Nat × Nat) (r : mx_T) (ls : mx_L) (st : List Value) (h : mx_H) (c n : Nat) : mx_G r (t_Mo_own zz) 6 ls st h c n = (o_get 10 1) r (mx_G r (t_Mo_own zz)) 6 ls st h c n := mx_G_eq (tm_Mo_own zz) r 6 ls st h c n
theorem st_Mo_own_9 (zz : Nat × Nat) (r : mx_T) (ls : mx_L) (st : List Value) (h : mx_H) (c n : Nat) : mx_G r (t_Mo_own zz) 9 ls st h c n = (o_iload 1 1) r (mx_G r (t_Mo_own zz)) 9 ls st h c n := mx_G_eq (tm_Mo_own zz) r 9 ls st h c n
theorem st_Mo_own_10 (zz : Nat × Nat) (r : mx_T) (ls : mx_L) (st : List Value) (h : mx_H) (c n : Nat) : mx_G r (t_Mo_own zz) 10 ls st h c n = (o_iald .int) r (mx_G r (t_Mo_own zz)) 10 ls st h c n := mx_G_eq (tm_Mo_own zz) r 10 ls st h c n
theorem st_Mo_own_11 (zz : Nat × Nat) (r : mx_T) (ls : mx_L) (st : List Value) (h : mx_H) (c n : Nat) : mx_G r (t_Mo_own zz) 11 ls st h c n = (o_call 0 0 1 0 0 (fun _ _ => True) (S_Mo_guarded zz)) r (mx_G r (t_Mo_own zz)) 11 ls st h c n := mx_G_eq (tm_Mo_own zz) r 11 ls st h c n
theorem st_Mo_own_14 (zz : Nat × Nat) (r : mx_T) (ls : mx_L) (st : List Value) (h : mx_H) (c n : Nat) : mx_G r (t_Mo_own zz) 14 ls st h c n = (o_iast .int (fun x => x)) r (mx_G r (t_Mo_own zz)) 14 ls st h c n := mx_G_eq (tm_Mo_own zz) r 14 ls st h c n
theorem st_Mo_own_15 (zz : Nat × Nat) (r : mx_T) (ls : mx_L) (st : List Value) (h : mx_H) (c n : Nat) : mx_G r (t_Mo_own zz) 15 ls st h c n = (o_aload 1 0) r (mx_G r (t_Mo_own zz)) 15 ls st h c n := mx_G_eq (tm_Mo_own zz) r 15 ls st h c n
theorem st_Mo_own_16 (zz : Nat × Nat) (r : mx_T) (ls : mx_L) (st : List Value) (h : mx_H) (c n : Nat) : mx_G r (t_Mo_own zz) 16 ls st h c n = (o_push 1 (.int 1)) r (mx_G r (t_Mo_own zz)) 16 ls st h c n := mx_G_eq (tm_Mo_own zz) r 16 ls st h c n
theorem st_Mo_own_17 (zz : Nat × Nat) (r : mx_T) (ls : mx_L) (st : List Value) (h : mx_H) (c n : Nat) : mx_G r (t_Mo_own zz) 17 ls st h c n = (o_put 10 34 mx_vI) r (mx_G r (t_Mo_own zz)) 17 ls st h c n := mx_G_eq (tm_Mo_own zz) r 17 ls st h c n
theorem st_Mo_own_20 (zz : Nat × Nat) (r : mx_T) (ls : mx_L) (st : List Value) (h : mx_H) (c n : Nat) : mx_G r (t_Mo_own zz) 20 ls st h c n = (o_aload 1 0) r (mx_G r (t_Mo_own zz)) 20 ls st h c n := mx_G_eq (tm_Mo_own zz) r 20 ls st h c n
theorem st_Mo_own_21 (zz : Nat × Nat) (r : mx_T) (ls : mx_L) (st : List Value) (h : mx_H) (c n : Nat) : mx_G r (t_Mo_own zz) 21 ls st h c n = (o_iload 1 1) r (mx_G r (t_Mo_own zz)) 21 ls st h c n := mx_G_eq (tm_Mo_own zz) r 21 ls st h c n
theorem st_Mo_own_22 (zz : Nat × Nat) (r : mx_T) (ls : mx_L) (st : List Value) (h : mx_H) (c n : Nat) : mx_G r (t_Mo_own zz) 22 ls st h c n = (o_call 0 0 2 0 0 (mx_rv 10) (S_Mo_respond zz)) r (mx_G r (t_Mo_own zz)) 22 ls st h c n := mx_G_eq (tm_Mo_own zz) r 22 ls st h c n
theorem st_Mo_own_25 (zz : Nat × Nat) (r : mx_T) (ls : mx_L) (st : List Value) (h : mx_H) (c n : Nat) : mx_G r (t_Mo_own zz) 25 ls st h c n = (o_aload 1 0) r (mx_G r (t_Mo_own zz)) 25 ls st h c n := mx_G_eq (tm_Mo_own zz) r 25 ls st h c n
theorem st_Mo_own_26 (zz : Nat × Nat) (r : mx_T) (ls : mx_L) (st : List Value) (h : mx_H) (c n : Nat) : mx_G r (t_Mo_own zz) 26 ls st h c n = (o_call 0 0 1 0 0 (mx_rv 10) (S_Mo_disturb zz)) r (mx_G r (t_Mo_own zz)) 26 ls st h c n := mx_G_eq (tm_Mo_own zz) r 26 ls st h c n
theorem st_Mo_own_29 (zz : Nat × Nat) (r : mx_T) (ls : mx_L) (st : List Value) (h : mx_H) (c n : Nat) : mx_G r (t_Mo_own zz) 29 ls st h c n = (o_aload 1 0) r (mx_G r (t_Mo_own zz)) 29 ls st h c n := mx_G_eq (tm_Mo_own zz) r 29 ls st h c n
theorem st_Mo_own_30 (zz : Nat × Nat) (r : mx_T) (ls : mx_L) (st : List Value) (h : mx_H) (c n : Nat) : mx_G r (t_Mo_own zz) 30 ls st h c n = (o_aload 1 0) r (mx_G r (t_Mo_own zz)) 30 ls st h c n := mx_G_eq (tm_Mo_own zz) r 30 ls st h c n
theorem st_Mo_own_31 (zz : Nat × Nat) (r : mx_T) (ls : mx_L) (st : List Value) (h : mx_H) (c n : Nat) : mx_G r (t_Mo_own zz) 31 ls st h c n = (o_get 10 3) r (mx_G r (t_Mo_own zz)) 31 ls st h c n := mx_G_eq (tm_Mo_own zz) r 31 ls st h c n
theorem st_Mo_own_34 (zz : Nat × Nat) (r : mx_T) (ls : mx_L) (st : List Value) (h : mx_H) (c n : Nat) : mx_G r (t_Mo_own zz) 34 ls st h c n = (o_iload 1 1) r (mx_G r (t_Mo_own zz)) 34 ls st h c n := mx_G_eq (tm_Mo_own zz) r 34 ls st h c n
theorem st_Mo_own_35 (zz : Nat × Nat) (r : mx_T) (ls : mx_L) (st : List Value) (h : mx_H) (c n : Nat) : mx_G r (t_Mo_own zz) 35 ls st h c n = (o_iald .int) r (mx_G r (t_Mo_own zz)) 35 ls st h c n := mx_G_eq (tm_Mo_own zz) r 35 ls st h c n
theorem st_Mo_own_36 (zz : Nat × Nat) (r : mx_T) (ls : mx_L) (st : List Value) (h : mx_H) (c n : Nat) : mx_G r (t_Mo_own zz) 36 ls st h c n = (o_aload 1 0) r (mx_G r (t_Mo_own zz)) 36 ls st h c n := mx_G_eq (tm_Mo_own zz) r 36 ls st h c n
theorem st_Mo_own_37 (zz : Nat × Nat) (r : mx_T) (ls : mx_L) (st : List Value) (h : mx_H) (c n : Nat) : mx_G r (t_Mo_own zz) 37 ls st h c n = (o_get 10 4) r (mx_G r (t_Mo_own zz)) 37 ls st h c n := mx_G_eq (tm_Mo_own zz) r 37 ls st h c n
theorem st_Mo_own_40 (zz : Nat × Nat) (r : mx_T) (ls : mx_L) (st : List Value) (h : mx_H) (c n : Nat) : mx_G r (t_Mo_own zz) 40 ls st h c n = (o_iload 1 1) r (mx_G r (t_Mo_own zz)) 40 ls st h c n := mx_G_eq (tm_Mo_own zz) r 40 ls st h c n
theorem st_Mo_own_41 (zz : Nat × Nat) (r : mx_T) (ls : mx_L) (st : List Value) (h : mx_H) (c n : Nat) : mx_G r (t_Mo_own zz) 41 ls st h c n = (o_iald .boolean) r (mx_G r (t_Mo_own zz)) 41 ls st h c n := mx_G_eq (tm_Mo_own zz) r 41 ls st h c n
theorem st_Mo_own_42 (zz : Nat × Nat) (r : mx_T) (ls : mx_L) (st : List Value) (h : mx_H) (c n : Nat) : mx_G r (t_Mo_own zz) 42 ls st h c n = (o_call 0 0 3 0 0 (mx_rv 10) (S_Mo_sound zz)) r (mx_G r (t_Mo_own zz)) 42 ls st h c n := mx_G_eq (tm_Mo_own zz) r 42 ls st h c n
theorem st_Mo_own_45 (zz : Nat × Nat) (r : mx_T) (ls : mx_L) (st : List Value) (h : mx_H) (c n : Nat) : mx_G r (t_Mo_own zz) 45 ls st h c n = (o_if 50 (fun x => ¬ x = 0)) r (mx_G r (t_Mo_own zz)) 45 ls st h c n := mx_G_eq (tm_Mo_own zz) r 45 ls st h c n
theorem st_Mo_own_48 (zz : Nat × Nat) (r : mx_T) (ls : mx_L) (st : List Value) (h : mx_H) (c n : Nat) : mx_G r (t_Mo_own zz) 48 ls st h c n = (o_push 1 (.int 3)) r (mx_G r (t_Mo_own zz)) 48 ls st h c n := mx_G_eq (tm_Mo_own zz) r 48 ls st h c n
theorem st_Mo_own_49 (zz : Nat × Nat) (r : mx_T) (ls : mx_L) (st : List Value) (h : mx_H) (c n : Nat) : mx_G r (t_Mo_own zz) 49 ls st h c n = (o_iret) r (mx_G r (t_Mo_own zz)) 49 ls st h c n := mx_G_eq (tm_Mo_own zz) r 49 ls st h c n
theorem st_Mo_own_50 (zz : Nat × Nat) (r : mx_T) (ls : mx_L) (st : List Value) (h : mx_H) (c n : Nat) : mx_G r (t_Mo_own zz) 50 ls st h c n = (o_aload 1 0) r (mx_G r (t_Mo_own zz)) 50 ls st h c n := mx_G_eq (tm_Mo_own zz) r 50 ls st h c n
theorem st_Mo_own_51 (zz : Nat × Nat) (r : mx_T) (ls : mx_L) (st : List Value) (h : mx_H) (c n : Nat) : mx_G r (t_Mo_own zz) 51 ls st h c n = (o_iload 1 1) r (mx_G r (t_Mo_own zz)) 51 ls st h c n := mx_G_eq (tm_Mo_own zz) r 51 ls st h c n
theorem st_Mo_own_52 (zz : Nat × Nat) (r : mx_T) (ls : mx_L) (st : List Value) (h : mx_H) (c n : Nat) : mx_G r (t_Mo_own zz) 52 ls st h c n = (o_call 0 0 2 0 0 (mx_rv 10) (S_Mo_receive zz)) r (mx_G r (t_Mo_own zz)) 52 ls st h c n := mx_G_eq (tm_Mo_own zz) r 52 ls st h c n
theorem st_Mo_own_55 (zz : Nat × Nat) (r : mx_T) (ls : mx_L) (st : List Value) (h : mx_H) (c n : Nat) : mx_G r (t_Mo_own zz) 55 ls st h c n = (o_push 1 (.int 1)) r (mx_G r (t_Mo_own zz)) 55 ls st h c n := mx_G_eq (tm_Mo_own zz) r 55 ls st h c n
theorem st_Mo_own_56 (zz : Nat × Nat) (r : mx_T) (ls : mx_L) (st : List Value) (h : mx_H) (c n : Nat) : mx_G r (t_Mo_own zz) 56 ls st h c n = (o_iret) r (mx_G r (t_Mo_own zz)) 56 ls st h c n := mx_G_eq (tm_Mo_own zz) r 56 ls st h c n
theorem d_Mo_sporadicSlot_0 : decode c_Mo_sporadicSlot 0 = .ok (.iconst 3, 1) := by decide +kernel
theorem d_Mo_sporadicSlot_1 : decode c_Mo_sporadicSlot 1 = .ok (.iload_n 1, 1) := by decide +kernel
theorem d_Mo_sporadicSlot_2 : decode c_Mo_sporadicSlot 2 = .ok (.imul, 1) := by decide +kernel
theorem d_Mo_sporadicSlot_3 : decode c_Mo_sporadicSlot 3 = .ok (.istore_n 2, 1) := by decide +kernel
theorem d_Mo_sporadicSlot_4 : decode c_Mo_sporadicSlot 4 = .ok (.iload_n 2, 1) := by decide +kernel
theorem d_Mo_sporadicSlot_5 : decode c_Mo_sporadicSlot 5 = .ok (.iconst 3, 1) := by decide +kernel
theorem d_Mo_sporadicSlot_6 : decode c_Mo_sporadicSlot 6 = .ok (.iload_n 1, 1) := by decide +kernel
theorem d_Mo_sporadicSlot_7 : decode c_Mo_sporadicSlot 7 = .ok (.imul, 1) := by decide +kernel
theorem d_Mo_sporadicSlot_8 : decode c_Mo_sporadicSlot 8 = .ok (.iconst 3, 1) := by decide +kernel
theorem d_Mo_sporadicSlot_9 : decode c_Mo_sporadicSlot 9 = .ok (.iadd, 1) := by decide +kernel
theorem d_Mo_sporadicSlot_10 : decode c_Mo_sporadicSlot 10 = .ok (.if_icmp .ge 44, 3) := by decide +kernel
theorem d_Mo_sporadicSlot_13 : decode c_Mo_sporadicSlot 13 = .ok (.aload_n 0, 1) := by decide +kernel
theorem d_Mo_sporadicSlot_14 : decode c_Mo_sporadicSlot 14 = .ok (.getfield 47, 3) := by decide +kernel
theorem d_Mo_sporadicSlot_17 : decode c_Mo_sporadicSlot 17 = .ok (.iload_n 2, 1) := by decide +kernel
theorem d_Mo_sporadicSlot_18 : decode c_Mo_sporadicSlot 18 = .ok (.iaload, 1) := by decide +kernel
theorem d_Mo_sporadicSlot_19 : decode c_Mo_sporadicSlot 19 = .ok (.iconst (-1), 1) := by decide +kernel
theorem d_Mo_sporadicSlot_20 : decode c_Mo_sporadicSlot 20 = .ok (.if_icmp .eq 28, 3) := by decide +kernel
theorem d_Mo_sporadicSlot_23 : decode c_Mo_sporadicSlot 23 = .ok (.aload_n 0, 1) := by decide +kernel
theorem d_Mo_sporadicSlot_24 : decode c_Mo_sporadicSlot 24 = .ok (.getfield 23, 3) := by decide +kernel
theorem d_Mo_sporadicSlot_27 : decode c_Mo_sporadicSlot 27 = .ok (.aload_n 0, 1) := by decide +kernel
theorem d_Mo_sporadicSlot_28 : decode c_Mo_sporadicSlot 28 = .ok (.getfield 47, 3) := by decide +kernel
theorem d_Mo_sporadicSlot_31 : decode c_Mo_sporadicSlot 31 = .ok (.iload_n 2, 1) := by decide +kernel
theorem d_Mo_sporadicSlot_32 : decode c_Mo_sporadicSlot 32 = .ok (.iaload, 1) := by decide +kernel
theorem d_Mo_sporadicSlot_33 : decode c_Mo_sporadicSlot 33 = .ok (.baload, 1) := by decide +kernel
theorem d_Mo_sporadicSlot_34 : decode c_Mo_sporadicSlot 34 = .ok (.ifCond .eq 14, 3) := by decide +kernel
theorem d_Mo_sporadicSlot_37 : decode c_Mo_sporadicSlot 37 = .ok (.aload_n 0, 1) := by decide +kernel
theorem d_Mo_sporadicSlot_38 : decode c_Mo_sporadicSlot 38 = .ok (.aload_n 0, 1) := by decide +kernel
theorem d_Mo_sporadicSlot_39 : decode c_Mo_sporadicSlot 39 = .ok (.getfield 47, 3) := by decide +kernel
theorem d_Mo_sporadicSlot_42 : decode c_Mo_sporadicSlot 42 = .ok (.iload_n 2, 1) := by decide +kernel
theorem d_Mo_sporadicSlot_43 : decode c_Mo_sporadicSlot 43 = .ok (.iaload, 1) := by decide +kernel
theorem d_Mo_sporadicSlot_44 : decode c_Mo_sporadicSlot 44 = .ok (.invokevirtual 170, 3) := by decide +kernel
theorem d_Mo_sporadicSlot_47 : decode c_Mo_sporadicSlot 47 = .ok (.ireturn, 1) := by decide +kernel
theorem d_Mo_sporadicSlot_48 : decode c_Mo_sporadicSlot 48 = .ok (.iinc 2 1, 3) := by decide +kernel
theorem d_Mo_sporadicSlot_51 : decode c_Mo_sporadicSlot 51 = .ok (.goto (-47), 3) := by decide +kernel
theorem d_Mo_sporadicSlot_54 : decode c_Mo_sporadicSlot 54 = .ok (.iconst 2, 1) := by decide +kernel
theorem d_Mo_sporadicSlot_55 : decode c_Mo_sporadicSlot 55 = .ok (.ireturn, 1) := by decide +kernel
def t_Mo_sporadicSlot (zz : Nat × Nat) : List (Nat × mx_O) := [(0, o_push 1 (.int 3)),
  (1, o_iload 1 1),
  (2, o_ii (fun x y => x * y)),
  (3, o_istore 1 2),
  (4, o_iload 1 2),
  (5, o_push 1 (.int 3)),
  (6, o_iload 1 1),
  (7, o_ii (fun x y => x * y)),
  (8, o_push 1 (.int 3)),
  (9, o_ii (fun x y => x + y)),
  (10, o_icmp 54 (fun x y => y ≤ x)),
  (13, o_aload 1 0),
  (14, o_get 10 15),
  (17, o_iload 1 2),
  (18, o_iald .int),
  (19, o_push 1 (.int (-1))),
  (20, o_icmp 48 (fun x y => x = y)),
  (23, o_aload 1 0),
  (24, o_get 10 5),
  (27, o_aload 1 0),
  (28, o_get 10 15),
  (31, o_iload 1 2),
  (32, o_iald .int),
  (33, o_iald .boolean),
  (34, o_if 48 (fun x => x = 0)),
  (37, o_aload 1 0),
  (38, o_aload 1 0),
  (39, o_get 10 15),
  (42, o_iload 1 2),
  (43, o_iald .int),
  (44, o_call 0 0 2 0 0 (mx_rv 10) (S_Mo_own zz)),
  (47, o_iret),
  (48, o_iinc 2 1),
  (51, o_goto 4),
  (54, o_push 1 (.int 2)),
  (55, o_iret)]
set_option maxRecDepth 100000 in
theorem tm_Mo_sporadicSlot (zz : Nat × Nat) : mx_All (fun _ o => mx_Mono o) (t_Mo_sporadicSlot zz) := by
  refine mx_all_cons (mo_st) ?_
  refine mx_all_cons (mo_st) ?_
  refine mx_all_cons (mo_st) ?_
  refine mx_all_cons (mo_st) ?_
  refine mx_all_cons (mo_st) ?_
  refine mx_all_cons (mo_st) ?_
  refine mx_all_cons (mo_st) ?_
  refine mx_all_cons (mo_st) ?_
  refine mx_all_cons (mo_st) ?_
  refine mx_all_cons (mo_st) ?_
  refine mx_all_cons (mo_br) ?_
  refine mx_all_cons (mo_st) ?_
  refine mx_all_cons (mo_st) ?_
  refine mx_all_cons (mo_st) ?_
  refine mx_all_cons (mo_sc) ?_
  refine mx_all_cons (mo_st) ?_
  refine mx_all_cons (mo_br) ?_
  refine mx_all_cons (mo_st) ?_
  refine mx_all_cons (mo_st) ?_
  refine mx_all_cons (mo_st) ?_
  refine mx_all_cons (mo_st) ?_
  refine mx_all_cons (mo_st) ?_
  refine mx_all_cons (mo_sc) ?_
  refine mx_all_cons (mo_sc) ?_
  refine mx_all_cons (mo_br) ?_
  refine mx_all_cons (mo_st) ?_
  refine mx_all_cons (mo_st) ?_
  refine mx_all_cons (mo_st) ?_
  refine mx_all_cons (mo_st) ?_
  refine mx_all_cons (mo_sc) ?_
  refine mx_all_cons (mo_call (sm_Mo_own zz)) ?_
  refine mx_all_cons (mo_ret) ?_
  refine mx_all_cons (mo_st) ?_
  refine mx_all_cons (mo_st) ?_
  refine mx_all_cons (mo_st) ?_
  refine mx_all_cons (mo_ret) ?_
  exact mx_all_nil
def S_Mo_sporadicSlot (zz : Nat × Nat) : mx_Sp := mx_S 3 0 0 (t_Mo_sporadicSlot zz)
theorem sm_Mo_sporadicSlot (zz : Nat × Nat) : mx_SMono (S_Mo_sporadicSlot zz) := mx_S_mono (tm_Mo_sporadicSlot zz)
abbrev rm_Mo_sporadicSlot : Room := { frames := 5, cells := 0, slots := 0, locals := 114 }
set_option maxHeartbeats 4000000 in
set_option maxRecDepth 100000 in
theorem m_Mo_sporadicSlot (l : Launch) (zz : Nat × Nat) : mx_Met l y_Mo_sporadicSlot (wsOf y_Mo_sporadicSlot c_Mo_sporadicSlot 3 (some .int)) rm_Mo_sporadicSlot wcl (mx_Z zz) 0 0 (S_Mo_sporadicSlot zz) := by
  refine mx_met (cc := c_Mo_sporadicSlot) (ret := (some .int)) (by decide) rfl ?_
  intro p e s m args below meth c D A Post X hz hr hlk hnm
  have hm : ∀ w ∈ mw, w.before args s = true := fun w h => X.1.2.2.2.2 w (List.mem_cons_of_mem _ h)
  refine mx_all_cons (ok_push (fun kk => lv_iconst X.1.1 X.1.2.1 d_Mo_sporadicSlot_0 (by decide) kk)) ?_
  refine mx_all_cons (ok_iload (fun hl kk => lv_iload_n X.1.1 X.1.2.1 d_Mo_sporadicSlot_1 rfl hl kk)) ?_
  refine mx_all_cons (ok_ii (fun kk => lv_imul X.1.1 X.1.2.1 d_Mo_sporadicSlot_2 kk)) ?_
  refine mx_all_cons (ok_istore (fun hl kk => lv_istore_n X.1.1 X.1.2.1 d_Mo_sporadicSlot_3 rfl hl (by decide) rfl kk)) ?_
  refine mx_all_cons (ok_iload (fun hl kk => lv_iload_n X.1.1 X.1.2.1 d_Mo_sporadicSlot_4 rfl hl kk)) ?_
  refine mx_all_cons (ok_push (fun kk => lv_iconst X.1.1 X.1.2.1 d_Mo_sporadicSlot_5 (by decide) kk)) ?_
  refine mx_all_cons (ok_iload (fun hl kk => lv_iload_n X.1.1 X.1.2.1 d_Mo_sporadicSlot_6 rfl hl kk)) ?_
  refine mx_all_cons (ok_ii (fun kk => lv_imul X.1.1 X.1.2.1 d_Mo_sporadicSlot_7 kk)) ?_
  refine mx_all_cons (ok_push (fun kk => lv_iconst X.1.1 X.1.2.1 d_Mo_sporadicSlot_8 (by decide) kk)) ?_
  refine mx_all_cons (ok_ii (fun kk => lv_iadd X.1.1 X.1.2.1 d_Mo_sporadicSlot_9 kk)) ?_
  refine mx_all_cons (ok_icmp (fun kt kf => lv_icmp_ge X.1.1 X.1.2.1 d_Mo_sporadicSlot_10 (by decide) kt kf)) ?_
  refine mx_all_cons (ok_aload (fun hl kk => lv_aload_n X.1.1 X.1.2.1 d_Mo_sporadicSlot_13 rfl hl kk) (fun hl kk => lv_aload_nN X.1.1 X.1.2.1 d_Mo_sporadicSlot_13 rfl hl kk)) ?_
  refine mx_all_cons (ok_get (C := "HeaderScheduleModel") (T := T_Mo) (N := 40) X (mw_up in_Mo) rfl 15 (by decide) (hm _ w692) (fun _ h9 => h9) d_Mo_sporadicSlot_14) ?_
  refine mx_all_cons (ok_iload (fun hl kk => lv_iload_n X.1.1 X.1.2.1 d_Mo_sporadicSlot_17 rfl hl kk)) ?_
  refine mx_all_cons (ok_iald X d_Mo_sporadicSlot_18) ?_
  refine mx_all_cons (ok_push (fun kk => lv_iconst X.1.1 X.1.2.1 d_Mo_sporadicSlot_19 (by decide) kk)) ?_
  refine mx_all_cons (ok_icmp (fun kt kf => lv_icmp_eq X.1.1 X.1.2.1 d_Mo_sporadicSlot_20 (by decide) kt kf)) ?_
  refine mx_all_cons (ok_aload (fun hl kk => lv_aload_n X.1.1 X.1.2.1 d_Mo_sporadicSlot_23 rfl hl kk) (fun hl kk => lv_aload_nN X.1.1 X.1.2.1 d_Mo_sporadicSlot_23 rfl hl kk)) ?_
  refine mx_all_cons (ok_get (C := "HeaderScheduleModel") (T := T_Mo) (N := 40) X (mw_up in_Mo) rfl 5 (by decide) (hm _ w682) (fun _ h9 => h9) d_Mo_sporadicSlot_24) ?_
  refine mx_all_cons (ok_aload (fun hl kk => lv_aload_n X.1.1 X.1.2.1 d_Mo_sporadicSlot_27 rfl hl kk) (fun hl kk => lv_aload_nN X.1.1 X.1.2.1 d_Mo_sporadicSlot_27 rfl hl kk)) ?_
  refine mx_all_cons (ok_get (C := "HeaderScheduleModel") (T := T_Mo) (N := 40) X (mw_up in_Mo) rfl 15 (by decide) (hm _ w692) (fun _ h9 => h9) d_Mo_sporadicSlot_28) ?_
  refine mx_all_cons (ok_iload (fun hl kk => lv_iload_n X.1.1 X.1.2.1 d_Mo_sporadicSlot_31 rfl hl kk)) ?_
  refine mx_all_cons (ok_iald X d_Mo_sporadicSlot_32) ?_
  refine mx_all_cons (ok_zald X d_Mo_sporadicSlot_33) ?_
  refine mx_all_cons (ok_if (fun kt kf => lv_if_eq X.1.1 X.1.2.1 d_Mo_sporadicSlot_34 (by decide) kt kf)) ?_
  refine mx_all_cons (ok_aload (fun hl kk => lv_aload_n X.1.1 X.1.2.1 d_Mo_sporadicSlot_37 rfl hl kk) (fun hl kk => lv_aload_nN X.1.1 X.1.2.1 d_Mo_sporadicSlot_37 rfl hl kk)) ?_
  refine mx_all_cons (ok_aload (fun hl kk => lv_aload_n X.1.1 X.1.2.1 d_Mo_sporadicSlot_38 rfl hl kk) (fun hl kk => lv_aload_nN X.1.1 X.1.2.1 d_Mo_sporadicSlot_38 rfl hl kk)) ?_
  refine mx_all_cons (ok_get (C := "HeaderScheduleModel") (T := T_Mo) (N := 40) X (mw_up in_Mo) rfl 15 (by decide) (hm _ w692) (fun _ h9 => h9) d_Mo_sporadicSlot_39) ?_
  refine mx_all_cons (ok_iload (fun hl kk => lv_iload_n X.1.1 X.1.2.1 d_Mo_sporadicSlot_42 rfl hl kk)) ?_
  refine mx_all_cons (ok_iald X d_Mo_sporadicSlot_43) ?_
  refine mx_all_cons (ok_callV (C := "HeaderScheduleModel") (T := T_Mo) (N := 40) X (mx_Zok_Z zz) hz ⟨(Nat.le_of_ble_eq_true rfl), (Nat.le_of_ble_eq_true rfl)⟩ (m_Mo_own l zz) ⟨mx_cwB 1 hm w888 w885 w40 rfl rfl (by decide +kernel) ⟨(Nat.le_of_ble_eq_true rfl), (Nat.le_of_ble_eq_true rfl)⟩, (hm _ w887), hm _ w24⟩ rfl d_Mo_sporadicSlot_44) ?_
  refine mx_all_cons (ok_iret X hr hlk d_Mo_sporadicSlot_47) ?_
  refine mx_all_cons (ok_iinc X (by decide) (by decide) d_Mo_sporadicSlot_48) ?_
  refine mx_all_cons (ok_goto X d_Mo_sporadicSlot_51 (by decide)) ?_
  refine mx_all_cons (ok_push (fun kk => lv_iconst X.1.1 X.1.2.1 d_Mo_sporadicSlot_54 (by decide) kk)) ?_
  refine mx_all_cons (ok_iret X hr hlk d_Mo_sporadicSlot_55) ?_
  exact mx_all_nil
theorem st_Mo_sporadicSlot_0 (zz : Nat × Nat) (r : mx_T) (ls : mx_L) (st : List Value) (h : mx_H) (c n : Nat) : mx_G r (t_Mo_sporadicSlot zz) 0 ls st h c n = (o_push 1 (.int 3)) r (mx_G r (t_Mo_sporadicSlot zz)) 0 ls st h c n := mx_G_eq (tm_Mo_sporadicSlot zz) r 0 ls st h c n
theorem st_Mo_sporadicSlot_1 (zz : Nat × Nat) (r : mx_T) (ls : mx_L) (st : List Value) (h : mx_H) (c n : Nat) : mx_G r (t_Mo_sporadicSlot zz) 1 ls st h c n = (o_iload 1 1) r (mx_G r (t_Mo_sporadicSlot zz)) 1 ls st h c n := mx_G_eq (tm_Mo_sporadicSlot zz) r 1 ls st h c n
theorem st_Mo_sporadicSlot_2 (zz : Nat × Nat) (r : mx_T) (ls : mx_L) (st : List Value) (h : mx_H) (c n : Nat) : mx_G r (t_Mo_sporadicSlot zz) 2 ls st h c n = (o_ii (fun x y => x * y)) r (mx_G r (t_Mo_sporadicSlot zz)) 2 ls st h c n := mx_G_eq (tm_Mo_sporadicSlot zz) r 2 ls st h c n
theorem st_Mo_sporadicSlot_3 (zz : Nat × Nat) (r : mx_T) (ls : mx_L) (st : List Value) (h : mx_H) (c n : Nat) : mx_G r (t_Mo_sporadicSlot zz) 3 ls st h c n = (o_istore 1 2) r (mx_G r (t_Mo_sporadicSlot zz)) 3 ls st h c n := mx_G_eq (tm_Mo_sporadicSlot zz) r 3 ls st h c n
theorem st_Mo_sporadicSlot_4 (zz : Nat × Nat) (r : mx_T) (ls : mx_L) (st : List Value) (h : mx_H) (c n : Nat) : mx_G r (t_Mo_sporadicSlot zz) 4 ls st h c n = (o_iload 1 2) r (mx_G r (t_Mo_sporadicSlot zz)) 4 ls st h c n := mx_G_eq (tm_Mo_sporadicSlot zz) r 4 ls st h c n
theorem st_Mo_sporadicSlot_5 (zz : Nat × Nat) (r : mx_T) (ls : mx_L) (st : List Value) (h : mx_H) (c n : Nat) : mx_G r (t_Mo_sporadicSlot zz) 5 ls st h c n = (o_push 1 (.int 3)) r (mx_G r (t_Mo_sporadicSlot zz)) 5 ls st h c n := mx_G_eq (tm_Mo_sporadicSlot zz) r 5 ls st h c n
theorem st_Mo_sporadicSlot_6 (zz : Nat × Nat) (r : mx_T) (ls : mx_L) (st : List Value) (h : mx_H) (c n : Nat) : mx_G r (t_Mo_sporadicSlot zz) 6 ls st h c n = (o_iload 1 1) r (mx_G r (t_Mo_sporadicSlot zz)) 6 ls st h c n := mx_G_eq (tm_Mo_sporadicSlot zz) r 6 ls st h c n
theorem st_Mo_sporadicSlot_7 (zz : Nat × Nat) (r : mx_T) (ls : mx_L) (st : List Value) (h : mx_H) (c n : Nat) : mx_G r (t_Mo_sporadicSlot zz) 7 ls st h c n = (o_ii (fun x y => x * y)) r (mx_G r (t_Mo_sporadicSlot zz)) 7 ls st h c n := mx_G_eq (tm_Mo_sporadicSlot zz) r 7 ls st h c n
theorem st_Mo_sporadicSlot_8 (zz : Nat × Nat) (r : mx_T) (ls : mx_L) (st : List Value) (h : mx_H) (c n : Nat) : mx_G r (t_Mo_sporadicSlot zz) 8 ls st h c n = (o_push 1 (.int 3)) r (mx_G r (t_Mo_sporadicSlot zz)) 8 ls st h c n := mx_G_eq (tm_Mo_sporadicSlot zz) r 8 ls st h c n
theorem st_Mo_sporadicSlot_9 (zz : Nat × Nat) (r : mx_T) (ls : mx_L) (st : List Value) (h : mx_H) (c n : Nat) : mx_G r (t_Mo_sporadicSlot zz) 9 ls st h c n = (o_ii (fun x y => x + y)) r (mx_G r (t_Mo_sporadicSlot zz)) 9 ls st h c n := mx_G_eq (tm_Mo_sporadicSlot zz) r 9 ls st h c n
theorem st_Mo_sporadicSlot_10 (zz : Nat × Nat) (r : mx_T) (ls : mx_L) (st : List Value) (h : mx_H) (c n : Nat) : mx_G r (t_Mo_sporadicSlot zz) 10 ls st h c n = (o_icmp 54 (fun x y => y ≤ x)) r (mx_G r (t_Mo_sporadicSlot zz)) 10 ls st h c n := mx_G_eq (tm_Mo_sporadicSlot zz) r 10 ls st h c n
theorem st_Mo_sporadicSlot_13 (zz : Nat × Nat) (r : mx_T) (ls : mx_L) (st : List Value) (h : mx_H) (c n : Nat) : mx_G r (t_Mo_sporadicSlot zz) 13 ls st h c n = (o_aload 1 0) r (mx_G r (t_Mo_sporadicSlot zz)) 13 ls st h c n := mx_G_eq (tm_Mo_sporadicSlot zz) r 13 ls st h c n
theorem st_Mo_sporadicSlot_14 (zz : Nat × Nat) (r : mx_T) (ls : mx_L) (st : List Value) (h : mx_H) (c n : Nat) : mx_G r (t_Mo_sporadicSlot zz) 14 ls st h c n = (o_get 10 15) r (mx_G r (t_Mo_sporadicSlot zz)) 14 ls st h c n := mx_G_eq (tm_Mo_sporadicSlot zz) r 14 ls st h c n
theorem st_Mo_sporadicSlot_17 (zz : Nat × Nat) (r : mx_T) (ls : mx_L) (st : List Value) (h : mx_H) (c n : Nat) : mx_G r (t_Mo_sporadicSlot zz) 17 ls st h c n = (o_iload 1 2) r (mx_G r (t_Mo_sporadicSlot zz)) 17 ls st h c n := mx_G_eq (tm_Mo_sporadicSlot zz) r 17 ls st h c n
theorem st_Mo_sporadicSlot_18 (zz : Nat × Nat) (r : mx_T) (ls : mx_L) (st : List Value) (h : mx_H) (c n : Nat) : mx_G r (t_Mo_sporadicSlot zz) 18 ls st h c n = (o_iald .int) r (mx_G r (t_Mo_sporadicSlot zz)) 18 ls st h c n := mx_G_eq (tm_Mo_sporadicSlot zz) r 18 ls st h c n
theorem st_Mo_sporadicSlot_19 (zz : Nat × Nat) (r : mx_T) (ls : mx_L) (st : List Value) (h : mx_H) (c n : Nat) : mx_G r (t_Mo_sporadicSlot zz) 19 ls st h c n = (o_push 1 (.int (-1))) r (mx_G r (t_Mo_sporadicSlot zz)) 19 ls st h c n := mx_G_eq (tm_Mo_sporadicSlot zz) r 19 ls st h c n
theorem st_Mo_sporadicSlot_20 (zz : Nat × Nat) (r : mx_T) (ls : mx_L) (st : List Value) (h : mx_H) (c n : Nat) : mx_G r (t_Mo_sporadicSlot zz) 20 ls st h c n = (o_icmp 48 (fun x y => x = y)) r (mx_G r (t_Mo_sporadicSlot zz)) 20 ls st h c n := mx_G_eq (tm_Mo_sporadicSlot zz) r 20 ls st h c n
theorem st_Mo_sporadicSlot_23 (zz : Nat × Nat) (r : mx_T) (ls : mx_L) (st : List Value) (h : mx_H) (c n : Nat) : mx_G r (t_Mo_sporadicSlot zz) 23 ls st h c n = (o_aload 1 0) r (mx_G r (t_Mo_sporadicSlot zz)) 23 ls st h c n := mx_G_eq (tm_Mo_sporadicSlot zz) r 23 ls st h c n
theorem st_Mo_sporadicSlot_24 (zz : Nat × Nat) (r : mx_T) (ls : mx_L) (st : List Value) (h : mx_H) (c n : Nat) : mx_G r (t_Mo_sporadicSlot zz) 24 ls st h c n = (o_get 10 5) r (mx_G r (t_Mo_sporadicSlot zz)) 24 ls st h c n := mx_G_eq (tm_Mo_sporadicSlot zz) r 24 ls st h c n
theorem st_Mo_sporadicSlot_27 (zz : Nat × Nat) (r : mx_T) (ls : mx_L) (st : List Value) (h : mx_H) (c n : Nat) : mx_G r (t_Mo_sporadicSlot zz) 27 ls st h c n = (o_aload 1 0) r (mx_G r (t_Mo_sporadicSlot zz)) 27 ls st h c n := mx_G_eq (tm_Mo_sporadicSlot zz) r 27 ls st h c n
theorem st_Mo_sporadicSlot_28 (zz : Nat × Nat) (r : mx_T) (ls : mx_L) (st : List Value) (h : mx_H) (c n : Nat) : mx_G r (t_Mo_sporadicSlot zz) 28 ls st h c n = (o_get 10 15) r (mx_G r (t_Mo_sporadicSlot zz)) 28 ls st h c n := mx_G_eq (tm_Mo_sporadicSlot zz) r 28 ls st h c n
theorem st_Mo_sporadicSlot_31 (zz : Nat × Nat) (r : mx_T) (ls : mx_L) (st : List Value) (h : mx_H) (c n : Nat) : mx_G r (t_Mo_sporadicSlot zz) 31 ls st h c n = (o_iload 1 2) r (mx_G r (t_Mo_sporadicSlot zz)) 31 ls st h c n := mx_G_eq (tm_Mo_sporadicSlot zz) r 31 ls st h c n
theorem st_Mo_sporadicSlot_32 (zz : Nat × Nat) (r : mx_T) (ls : mx_L) (st : List Value) (h : mx_H) (c n : Nat) : mx_G r (t_Mo_sporadicSlot zz) 32 ls st h c n = (o_iald .int) r (mx_G r (t_Mo_sporadicSlot zz)) 32 ls st h c n := mx_G_eq (tm_Mo_sporadicSlot zz) r 32 ls st h c n
theorem st_Mo_sporadicSlot_33 (zz : Nat × Nat) (r : mx_T) (ls : mx_L) (st : List Value) (h : mx_H) (c n : Nat) : mx_G r (t_Mo_sporadicSlot zz) 33 ls st h c n = (o_iald .boolean) r (mx_G r (t_Mo_sporadicSlot zz)) 33 ls st h c n := mx_G_eq (tm_Mo_sporadicSlot zz) r 33 ls st h c n
theorem st_Mo_sporadicSlot_34 (zz : Nat × Nat) (r : mx_T) (ls : mx_L) (st : List Value) (h : mx_H) (c n : Nat) : mx_G r (t_Mo_sporadicSlot zz) 34 ls st h c n = (o_if 48 (fun x => x = 0)) r (mx_G r (t_Mo_sporadicSlot zz)) 34 ls st h c n := mx_G_eq (tm_Mo_sporadicSlot zz) r 34 ls st h c n
theorem st_Mo_sporadicSlot_37 (zz : Nat × Nat) (r : mx_T) (ls : mx_L) (st : List Value) (h : mx_H) (c n : Nat) : mx_G r (t_Mo_sporadicSlot zz) 37 ls st h c n = (o_aload 1 0) r (mx_G r (t_Mo_sporadicSlot zz)) 37 ls st h c n := mx_G_eq (tm_Mo_sporadicSlot zz) r 37 ls st h c n
theorem st_Mo_sporadicSlot_38 (zz : Nat × Nat) (r : mx_T) (ls : mx_L) (st : List Value) (h : mx_H) (c n : Nat) : mx_G r (t_Mo_sporadicSlot zz) 38 ls st h c n = (o_aload 1 0) r (mx_G r (t_Mo_sporadicSlot zz)) 38 ls st h c n := mx_G_eq (tm_Mo_sporadicSlot zz) r 38 ls st h c n
theorem st_Mo_sporadicSlot_39 (zz : Nat × Nat) (r : mx_T) (ls : mx_L) (st : List Value) (h : mx_H) (c n : Nat) : mx_G r (t_Mo_sporadicSlot zz) 39 ls st h c n = (o_get 10 15) r (mx_G r (t_Mo_sporadicSlot zz)) 39 ls st h c n := mx_G_eq (tm_Mo_sporadicSlot zz) r 39 ls st h c n
theorem st_Mo_sporadicSlot_42 (zz : Nat × Nat) (r : mx_T) (ls : mx_L) (st : List Value) (h : mx_H) (c n : Nat) : mx_G r (t_Mo_sporadicSlot zz) 42 ls st h c n = (o_iload 1 2) r (mx_G r (t_Mo_sporadicSlot zz)) 42 ls st h c n := mx_G_eq (tm_Mo_sporadicSlot zz) r 42 ls st h c n
theorem st_Mo_sporadicSlot_43 (zz : Nat × Nat) (r : mx_T) (ls : mx_L) (st : List Value) (h : mx_H) (c n : Nat) : mx_G r (t_Mo_sporadicSlot zz) 43 ls st h c n = (o_iald .int) r (mx_G r (t_Mo_sporadicSlot zz)) 43 ls st h c n := mx_G_eq (tm_Mo_sporadicSlot zz) r 43 ls st h c n
theorem st_Mo_sporadicSlot_44 (zz : Nat × Nat) (r : mx_T) (ls : mx_L) (st : List Value) (h : mx_H) (c n : Nat) : mx_G r (t_Mo_sporadicSlot zz) 44 ls st h c n = (o_call 0 0 2 0 0 (mx_rv 10) (S_Mo_own zz)) r (mx_G r (t_Mo_sporadicSlot zz)) 44 ls st h c n := mx_G_eq (tm_Mo_sporadicSlot zz) r 44 ls st h c n
theorem st_Mo_sporadicSlot_47 (zz : Nat × Nat) (r : mx_T) (ls : mx_L) (st : List Value) (h : mx_H) (c n : Nat) : mx_G r (t_Mo_sporadicSlot zz) 47 ls st h c n = (o_iret) r (mx_G r (t_Mo_sporadicSlot zz)) 47 ls st h c n := mx_G_eq (tm_Mo_sporadicSlot zz) r 47 ls st h c n
theorem st_Mo_sporadicSlot_48 (zz : Nat × Nat) (r : mx_T) (ls : mx_L) (st : List Value) (h : mx_H) (c n : Nat) : mx_G r (t_Mo_sporadicSlot zz) 48 ls st h c n = (o_iinc 2 1) r (mx_G r (t_Mo_sporadicSlot zz)) 48 ls st h c n := mx_G_eq (tm_Mo_sporadicSlot zz) r 48 ls st h c n
theorem st_Mo_sporadicSlot_51 (zz : Nat × Nat) (r : mx_T) (ls : mx_L) (st : List Value) (h : mx_H) (c n : Nat) : mx_G r (t_Mo_sporadicSlot zz) 51 ls st h c n = (o_goto 4) r (mx_G r (t_Mo_sporadicSlot zz)) 51 ls st h c n := mx_G_eq (tm_Mo_sporadicSlot zz) r 51 ls st h c n
theorem st_Mo_sporadicSlot_54 (zz : Nat × Nat) (r : mx_T) (ls : mx_L) (st : List Value) (h : mx_H) (c n : Nat) : mx_G r (t_Mo_sporadicSlot zz) 54 ls st h c n = (o_push 1 (.int 2)) r (mx_G r (t_Mo_sporadicSlot zz)) 54 ls st h c n := mx_G_eq (tm_Mo_sporadicSlot zz) r 54 ls st h c n
theorem st_Mo_sporadicSlot_55 (zz : Nat × Nat) (r : mx_T) (ls : mx_L) (st : List Value) (h : mx_H) (c n : Nat) : mx_G r (t_Mo_sporadicSlot zz) 55 ls st h c n = (o_iret) r (mx_G r (t_Mo_sporadicSlot zz)) 55 ls st h c n := mx_G_eq (tm_Mo_sporadicSlot zz) r 55 ls st h c n
theorem d_Mo_eventSlot_0 : decode c_Mo_eventSlot 0 = .ok (.aload_n 0, 1) := by decide +kernel
theorem d_Mo_eventSlot_1 : decode c_Mo_eventSlot 1 = .ok (.getfield 75, 3) := by decide +kernel
theorem d_Mo_eventSlot_4 : decode c_Mo_eventSlot 4 = .ok (.iconst 0, 1) := by decide +kernel
theorem d_Mo_eventSlot_5 : decode c_Mo_eventSlot 5 = .ok (.aload_n 0, 1) := by decide +kernel
theorem d_Mo_eventSlot_6 : decode c_Mo_eventSlot 6 = .ok (.getfield 50, 3) := by decide +kernel
theorem d_Mo_eventSlot_9 : decode c_Mo_eventSlot 9 = .ok (.iload_n 1, 1) := by decide +kernel
theorem d_Mo_eventSlot_10 : decode c_Mo_eventSlot 10 = .ok (.iaload, 1) := by decide +kernel
theorem d_Mo_eventSlot_11 : decode c_Mo_eventSlot 11 = .ok (.invokestatic 143, 3) := by decide +kernel
theorem d_Mo_eventSlot_14 : decode c_Mo_eventSlot 14 = .ok (.iastore, 1) := by decide +kernel
theorem d_Mo_eventSlot_15 : decode c_Mo_eventSlot 15 = .ok (.aload_n 0, 1) := by decide +kernel
theorem d_Mo_eventSlot_16 : decode c_Mo_eventSlot 16 = .ok (.iconst 1, 1) := by decide +kernel
theorem d_Mo_eventSlot_17 : decode c_Mo_eventSlot 17 = .ok (.putfield 150, 3) := by decide +kernel
theorem d_Mo_eventSlot_20 : decode c_Mo_eventSlot 20 = .ok (.sipush 255, 3) := by decide +kernel
theorem d_Mo_eventSlot_23 : decode c_Mo_eventSlot 23 = .ok (.istore_n 2, 1) := by decide +kernel
theorem d_Mo_eventSlot_24 : decode c_Mo_eventSlot 24 = .ok (.iconst 0, 1) := by decide +kernel
theorem d_Mo_eventSlot_25 : decode c_Mo_eventSlot 25 = .ok (.istore_n 3, 1) := by decide +kernel
theorem d_Mo_eventSlot_26 : decode c_Mo_eventSlot 26 = .ok (.iconst 3, 1) := by decide +kernel
theorem d_Mo_eventSlot_27 : decode c_Mo_eventSlot 27 = .ok (.iload_n 1, 1) := by decide +kernel
theorem d_Mo_eventSlot_28 : decode c_Mo_eventSlot 28 = .ok (.imul, 1) := by decide +kernel
theorem d_Mo_eventSlot_29 : decode c_Mo_eventSlot 29 = .ok (.istore 4, 2) := by decide +kernel
theorem d_Mo_eventSlot_31 : decode c_Mo_eventSlot 31 = .ok (.iload 4, 2) := by decide +kernel
theorem d_Mo_eventSlot_33 : decode c_Mo_eventSlot 33 = .ok (.iconst 3, 1) := by decide +kernel
theorem d_Mo_eventSlot_34 : decode c_Mo_eventSlot 34 = .ok (.iload_n 1, 1) := by decide +kernel
theorem d_Mo_eventSlot_35 : decode c_Mo_eventSlot 35 = .ok (.imul, 1) := by decide +kernel
theorem d_Mo_eventSlot_36 : decode c_Mo_eventSlot 36 = .ok (.iconst 3, 1) := by decide +kernel
theorem d_Mo_eventSlot_37 : decode c_Mo_eventSlot 37 = .ok (.iadd, 1) := by decide +kernel
theorem d_Mo_eventSlot_38 : decode c_Mo_eventSlot 38 = .ok (.if_icmp .ge 55, 3) := by decide +kernel
theorem d_Mo_eventSlot_41 : decode c_Mo_eventSlot 41 = .ok (.aload_n 0, 1) := by decide +kernel
theorem d_Mo_eventSlot_42 : decode c_Mo_eventSlot 42 = .ok (.getfield 53, 3) := by decide +kernel
theorem d_Mo_eventSlot_45 : decode c_Mo_eventSlot 45 = .ok (.iload 4, 2) := by decide +kernel
theorem d_Mo_eventSlot_47 : decode c_Mo_eventSlot 47 = .ok (.iaload, 1) := by decide +kernel
theorem d_Mo_eventSlot_48 : decode c_Mo_eventSlot 48 = .ok (.iconst (-1), 1) := by decide +kernel
theorem d_Mo_eventSlot_49 : decode c_Mo_eventSlot 49 = .ok (.if_icmp .eq 38, 3) := by decide +kernel
theorem d_Mo_eventSlot_52 : decode c_Mo_eventSlot 52 = .ok (.aload_n 0, 1) := by decide +kernel
theorem d_Mo_eventSlot_53 : decode c_Mo_eventSlot 53 = .ok (.getfield 23, 3) := by decide +kernel
theorem d_Mo_eventSlot_56 : decode c_Mo_eventSlot 56 = .ok (.aload_n 0, 1) := by decide +kernel
theorem d_Mo_eventSlot_57 : decode c_Mo_eventSlot 57 = .ok (.getfield 53, 3) := by decide +kernel
theorem d_Mo_eventSlot_60 : decode c_Mo_eventSlot 60 = .ok (.iload 4, 2) := by decide +kernel
theorem d_Mo_eventSlot_62 : decode c_Mo_eventSlot 62 = .ok (.iaload, 1) := by decide +kernel
theorem d_Mo_eventSlot_63 : decode c_Mo_eventSlot 63 = .ok (.baload, 1) := by decide +kernel
theorem d_Mo_eventSlot_64 : decode c_Mo_eventSlot 64 = .ok (.ifCond .eq 23, 3) := by decide +kernel
theorem d_Mo_eventSlot_67 : decode c_Mo_eventSlot 67 = .ok (.iconst 1, 1) := by decide +kernel
theorem d_Mo_eventSlot_68 : decode c_Mo_eventSlot 68 = .ok (.istore_n 3, 1) := by decide +kernel
theorem d_Mo_eventSlot_69 : decode c_Mo_eventSlot 69 = .ok (.iload_n 2, 1) := by decide +kernel
theorem d_Mo_eventSlot_70 : decode c_Mo_eventSlot 70 = .ok (.aload_n 0, 1) := by decide +kernel
theorem d_Mo_eventSlot_71 : decode c_Mo_eventSlot 71 = .ok (.getfield 7, 3) := by decide +kernel
theorem d_Mo_eventSlot_74 : decode c_Mo_eventSlot 74 = .ok (.aload_n 0, 1) := by decide +kernel
theorem d_Mo_eventSlot_75 : decode c_Mo_eventSlot 75 = .ok (.getfield 53, 3) := by decide +kernel
theorem d_Mo_eventSlot_78 : decode c_Mo_eventSlot 78 = .ok (.iload 4, 2) := by decide +kernel
theorem d_Mo_eventSlot_80 : decode c_Mo_eventSlot 80 = .ok (.iaload, 1) := by decide +kernel
theorem d_Mo_eventSlot_81 : decode c_Mo_eventSlot 81 = .ok (.iaload, 1) := by decide +kernel
theorem d_Mo_eventSlot_82 : decode c_Mo_eventSlot 82 = .ok (.invokestatic 143, 3) := by decide +kernel
theorem d_Mo_eventSlot_85 : decode c_Mo_eventSlot 85 = .ok (.iand, 1) := by decide +kernel
theorem d_Mo_eventSlot_86 : decode c_Mo_eventSlot 86 = .ok (.istore_n 2, 1) := by decide +kernel
theorem d_Mo_eventSlot_87 : decode c_Mo_eventSlot 87 = .ok (.iinc 4 1, 3) := by decide +kernel
theorem d_Mo_eventSlot_90 : decode c_Mo_eventSlot 90 = .ok (.goto (-59), 3) := by decide +kernel
theorem d_Mo_eventSlot_93 : decode c_Mo_eventSlot 93 = .ok (.iload_n 3, 1) := by decide +kernel
theorem d_Mo_eventSlot_94 : decode c_Mo_eventSlot 94 = .ok (.ifCond .ne 5, 3) := by decide +kernel
theorem d_Mo_eventSlot_97 : decode c_Mo_eventSlot 97 = .ok (.iconst 2, 1) := by decide +kernel
theorem d_Mo_eventSlot_98 : decode c_Mo_eventSlot 98 = .ok (.ireturn, 1) := by decide +kernel
theorem d_Mo_eventSlot_99 : decode c_Mo_eventSlot 99 = .ok (.iconst (-1), 1) := by decide +kernel
theorem d_Mo_eventSlot_100 : decode c_Mo_eventSlot 100 = .ok (.istore 4, 2) := by decide +kernel
theorem d_Mo_eventSlot_102 : decode c_Mo_eventSlot 102 = .ok (.iconst 3, 1) := by decide +kernel
theorem d_Mo_eventSlot_103 : decode c_Mo_eventSlot 103 = .ok (.iload_n 1, 1) := by decide +kernel
theorem d_Mo_eventSlot_104 : decode c_Mo_eventSlot 104 = .ok (.imul, 1) := by decide +kernel
theorem d_Mo_eventSlot_105 : decode c_Mo_eventSlot 105 = .ok (.istore 5, 2) := by decide +kernel
theorem d_Mo_eventSlot_107 : decode c_Mo_eventSlot 107 = .ok (.iload 5, 2) := by decide +kernel
theorem d_Mo_eventSlot_109 : decode c_Mo_eventSlot 109 = .ok (.iconst 3, 1) := by decide +kernel
theorem d_Mo_eventSlot_110 : decode c_Mo_eventSlot 110 = .ok (.iload_n 1, 1) := by decide +kernel
theorem d_Mo_eventSlot_111 : decode c_Mo_eventSlot 111 = .ok (.imul, 1) := by decide +kernel
theorem d_Mo_eventSlot_112 : decode c_Mo_eventSlot 112 = .ok (.iconst 3, 1) := by decide +kernel
theorem d_Mo_eventSlot_113 : decode c_Mo_eventSlot 113 = .ok (.iadd, 1) := by decide +kernel
theorem d_Mo_eventSlot_114 : decode c_Mo_eventSlot 114 = .ok (.if_icmp .ge 63, 3) := by decide +kernel
theorem d_Mo_eventSlot_117 : decode c_Mo_eventSlot 117 = .ok (.aload_n 0, 1) := by decide +kernel
theorem d_Mo_eventSlot_118 : decode c_Mo_eventSlot 118 = .ok (.getfield 53, 3) := by decide +kernel
theorem d_Mo_eventSlot_121 : decode c_Mo_eventSlot 121 = .ok (.iload 5, 2) := by decide +kernel
theorem d_Mo_eventSlot_123 : decode c_Mo_eventSlot 123 = .ok (.iaload, 1) := by decide +kernel
theorem d_Mo_eventSlot_124 : decode c_Mo_eventSlot 124 = .ok (.iconst (-1), 1) := by decide +kernel
theorem d_Mo_eventSlot_125 : decode c_Mo_eventSlot 125 = .ok (.if_icmp .eq 46, 3) := by decide +kernel
theorem d_Mo_eventSlot_128 : decode c_Mo_eventSlot 128 = .ok (.aload_n 0, 1) := by decide +kernel
theorem d_Mo_eventSlot_129 : decode c_Mo_eventSlot 129 = .ok (.getfield 23, 3) := by decide +kernel
theorem d_Mo_eventSlot_132 : decode c_Mo_eventSlot 132 = .ok (.aload_n 0, 1) := by decide +kernel
theorem d_Mo_eventSlot_133 : decode c_Mo_eventSlot 133 = .ok (.getfield 53, 3) := by decide +kernel
theorem d_Mo_eventSlot_136 : decode c_Mo_eventSlot 136 = .ok (.iload 5, 2) := by decide +kernel
theorem d_Mo_eventSlot_138 : decode c_Mo_eventSlot 138 = .ok (.iaload, 1) := by decide +kernel
theorem d_Mo_eventSlot_139 : decode c_Mo_eventSlot 139 = .ok (.baload, 1) := by decide +kernel
theorem d_Mo_eventSlot_140 : decode c_Mo_eventSlot 140 = .ok (.ifCond .eq 31, 3) := by decide +kernel
theorem d_Mo_eventSlot_143 : decode c_Mo_eventSlot 143 = .ok (.aload_n 0, 1) := by decide +kernel
theorem d_Mo_eventSlot_144 : decode c_Mo_eventSlot 144 = .ok (.getfield 7, 3) := by decide +kernel
theorem d_Mo_eventSlot_147 : decode c_Mo_eventSlot 147 = .ok (.aload_n 0, 1) := by decide +kernel
theorem d_Mo_eventSlot_148 : decode c_Mo_eventSlot 148 = .ok (.getfield 53, 3) := by decide +kernel
theorem d_Mo_eventSlot_151 : decode c_Mo_eventSlot 151 = .ok (.iload 5, 2) := by decide +kernel
theorem d_Mo_eventSlot_153 : decode c_Mo_eventSlot 153 = .ok (.iaload, 1) := by decide +kernel
theorem d_Mo_eventSlot_154 : decode c_Mo_eventSlot 154 = .ok (.iaload, 1) := by decide +kernel
theorem d_Mo_eventSlot_155 : decode c_Mo_eventSlot 155 = .ok (.invokestatic 143, 3) := by decide +kernel
theorem d_Mo_eventSlot_158 : decode c_Mo_eventSlot 158 = .ok (.iload_n 2, 1) := by decide +kernel
theorem d_Mo_eventSlot_159 : decode c_Mo_eventSlot 159 = .ok (.if_icmp .ne 12, 3) := by decide +kernel
theorem d_Mo_eventSlot_162 : decode c_Mo_eventSlot 162 = .ok (.aload_n 0, 1) := by decide +kernel
theorem d_Mo_eventSlot_163 : decode c_Mo_eventSlot 163 = .ok (.getfield 53, 3) := by decide +kernel
theorem d_Mo_eventSlot_166 : decode c_Mo_eventSlot 166 = .ok (.iload 5, 2) := by decide +kernel
theorem d_Mo_eventSlot_168 : decode c_Mo_eventSlot 168 = .ok (.iaload, 1) := by decide +kernel
theorem d_Mo_eventSlot_169 : decode c_Mo_eventSlot 169 = .ok (.istore 4, 2) := by decide +kernel
theorem d_Mo_eventSlot_171 : decode c_Mo_eventSlot 171 = .ok (.iinc 5 1, 3) := by decide +kernel
theorem d_Mo_eventSlot_174 : decode c_Mo_eventSlot 174 = .ok (.goto (-67), 3) := by decide +kernel
theorem d_Mo_eventSlot_177 : decode c_Mo_eventSlot 177 = .ok (.iload 4, 2) := by decide +kernel
theorem d_Mo_eventSlot_179 : decode c_Mo_eventSlot 179 = .ok (.ifCond .lt 12, 3) := by decide +kernel
theorem d_Mo_eventSlot_182 : decode c_Mo_eventSlot 182 = .ok (.aload_n 0, 1) := by decide +kernel
theorem d_Mo_eventSlot_183 : decode c_Mo_eventSlot 183 = .ok (.iload 4, 2) := by decide +kernel
theorem d_Mo_eventSlot_185 : decode c_Mo_eventSlot 185 = .ok (.invokevirtual 156, 3) := by decide +kernel
theorem d_Mo_eventSlot_188 : decode c_Mo_eventSlot 188 = .ok (.goto 15, 3) := by decide +kernel
theorem d_Mo_eventSlot_191 : decode c_Mo_eventSlot 191 = .ok (.aload_n 0, 1) := by decide +kernel
theorem d_Mo_eventSlot_192 : decode c_Mo_eventSlot 192 = .ok (.getfield 75, 3) := by decide +kernel
theorem d_Mo_eventSlot_195 : decode c_Mo_eventSlot 195 = .ok (.iconst 1, 1) := by decide +kernel
theorem d_Mo_eventSlot_196 : decode c_Mo_eventSlot 196 = .ok (.iload_n 2, 1) := by decide +kernel
theorem d_Mo_eventSlot_197 : decode c_Mo_eventSlot 197 = .ok (.iastore, 1) := by decide +kernel
theorem d_Mo_eventSlot_198 : decode c_Mo_eventSlot 198 = .ok (.aload_n 0, 1) := by decide +kernel
theorem d_Mo_eventSlot_199 : decode c_Mo_eventSlot 199 = .ok (.iconst 2, 1) := by decide +kernel
theorem d_Mo_eventSlot_200 : decode c_Mo_eventSlot 200 = .ok (.putfield 150, 3) := by decide +kernel
theorem d_Mo_eventSlot_203 : decode c_Mo_eventSlot 203 = .ok (.aload_n 0, 1) := by decide +kernel
theorem d_Mo_eventSlot_204 : decode c_Mo_eventSlot 204 = .ok (.invokevirtual 160, 3) := by decide +kernel
theorem d_Mo_eventSlot_207 : decode c_Mo_eventSlot 207 = .ok (.aload_n 0, 1) := by decide +kernel
theorem d_Mo_eventSlot_208 : decode c_Mo_eventSlot 208 = .ok (.getfield 53, 3) := by decide +kernel
theorem d_Mo_eventSlot_211 : decode c_Mo_eventSlot 211 = .ok (.iconst 3, 1) := by decide +kernel
theorem d_Mo_eventSlot_212 : decode c_Mo_eventSlot 212 = .ok (.iload_n 1, 1) := by decide +kernel
theorem d_Mo_eventSlot_213 : decode c_Mo_eventSlot 213 = .ok (.imul, 1) := by decide +kernel
theorem d_Mo_eventSlot_214 : decode c_Mo_eventSlot 214 = .ok (.iaload, 1) := by decide +kernel
theorem d_Mo_eventSlot_215 : decode c_Mo_eventSlot 215 = .ok (.istore 5, 2) := by decide +kernel
theorem d_Mo_eventSlot_217 : decode c_Mo_eventSlot 217 = .ok (.aload_n 0, 1) := by decide +kernel
theorem d_Mo_eventSlot_218 : decode c_Mo_eventSlot 218 = .ok (.aload_n 0, 1) := by decide +kernel
theorem d_Mo_eventSlot_219 : decode c_Mo_eventSlot 219 = .ok (.getfield 16, 3) := by decide +kernel
theorem d_Mo_eventSlot_222 : decode c_Mo_eventSlot 222 = .ok (.iload 5, 2) := by decide +kernel
theorem d_Mo_eventSlot_224 : decode c_Mo_eventSlot 224 = .ok (.iaload, 1) := by decide +kernel
theorem d_Mo_eventSlot_225 : decode c_Mo_eventSlot 225 = .ok (.aload_n 0, 1) := by decide +kernel
theorem d_Mo_eventSlot_226 : decode c_Mo_eventSlot 226 = .ok (.getfield 19, 3) := by decide +kernel
theorem d_Mo_eventSlot_229 : decode c_Mo_eventSlot 229 = .ok (.iload 5, 2) := by decide +kernel
theorem d_Mo_eventSlot_231 : decode c_Mo_eventSlot 231 = .ok (.baload, 1) := by decide +kernel
theorem d_Mo_eventSlot_232 : decode c_Mo_eventSlot 232 = .ok (.invokevirtual 163, 3) := by decide +kernel
theorem d_Mo_eventSlot_235 : decode c_Mo_eventSlot 235 = .ok (.ifCond .eq 72, 3) := by decide +kernel
theorem d_Mo_eventSlot_238 : decode c_Mo_eventSlot 238 = .ok (.iconst 3, 1) := by decide +kernel
theorem d_Mo_eventSlot_239 : decode c_Mo_eventSlot 239 = .ok (.iload_n 1, 1) := by decide +kernel
theorem d_Mo_eventSlot_240 : decode c_Mo_eventSlot 240 = .ok (.imul, 1) := by decide +kernel
theorem d_Mo_eventSlot_241 : decode c_Mo_eventSlot 241 = .ok (.istore 6, 2) := by decide +kernel
theorem d_Mo_eventSlot_243 : decode c_Mo_eventSlot 243 = .ok (.iload 6, 2) := by decide +kernel
theorem d_Mo_eventSlot_245 : decode c_Mo_eventSlot 245 = .ok (.iconst 3, 1) := by decide +kernel
theorem d_Mo_eventSlot_246 : decode c_Mo_eventSlot 246 = .ok (.iload_n 1, 1) := by decide +kernel
theorem d_Mo_eventSlot_247 : decode c_Mo_eventSlot 247 = .ok (.imul, 1) := by decide +kernel
theorem d_Mo_eventSlot_248 : decode c_Mo_eventSlot 248 = .ok (.iconst 3, 1) := by decide +kernel
theorem d_Mo_eventSlot_249 : decode c_Mo_eventSlot 249 = .ok (.iadd, 1) := by decide +kernel
theorem d_Mo_eventSlot_250 : decode c_Mo_eventSlot 250 = .ok (.if_icmp .ge 57, 3) := by decide +kernel
theorem d_Mo_eventSlot_253 : decode c_Mo_eventSlot 253 = .ok (.aload_n 0, 1) := by decide +kernel
theorem d_Mo_eventSlot_254 : decode c_Mo_eventSlot 254 = .ok (.getfield 53, 3) := by decide +kernel
theorem d_Mo_eventSlot_257 : decode c_Mo_eventSlot 257 = .ok (.iload 6, 2) := by decide +kernel
theorem d_Mo_eventSlot_259 : decode c_Mo_eventSlot 259 = .ok (.iaload, 1) := by decide +kernel
theorem d_Mo_eventSlot_260 : decode c_Mo_eventSlot 260 = .ok (.iconst (-1), 1) := by decide +kernel
theorem d_Mo_eventSlot_261 : decode c_Mo_eventSlot 261 = .ok (.if_icmp .eq 40, 3) := by decide +kernel
theorem d_Mo_eventSlot_264 : decode c_Mo_eventSlot 264 = .ok (.aload_n 0, 1) := by decide +kernel
theorem d_Mo_eventSlot_265 : decode c_Mo_eventSlot 265 = .ok (.getfield 7, 3) := by decide +kernel
theorem d_Mo_eventSlot_268 : decode c_Mo_eventSlot 268 = .ok (.aload_n 0, 1) := by decide +kernel
theorem d_Mo_eventSlot_269 : decode c_Mo_eventSlot 269 = .ok (.getfield 53, 3) := by decide +kernel
theorem d_Mo_eventSlot_272 : decode c_Mo_eventSlot 272 = .ok (.iload 6, 2) := by decide +kernel
theorem d_Mo_eventSlot_274 : decode c_Mo_eventSlot 274 = .ok (.iaload, 1) := by decide +kernel
theorem d_Mo_eventSlot_275 : decode c_Mo_eventSlot 275 = .ok (.iaload, 1) := by decide +kernel
theorem d_Mo_eventSlot_276 : decode c_Mo_eventSlot 276 = .ok (.invokestatic 143, 3) := by decide +kernel
theorem d_Mo_eventSlot_279 : decode c_Mo_eventSlot 279 = .ok (.aload_n 0, 1) := by decide +kernel
theorem d_Mo_eventSlot_280 : decode c_Mo_eventSlot 280 = .ok (.getfield 75, 3) := by decide +kernel
theorem d_Mo_eventSlot_283 : decode c_Mo_eventSlot 283 = .ok (.iconst 1, 1) := by decide +kernel
theorem d_Mo_eventSlot_284 : decode c_Mo_eventSlot 284 = .ok (.iaload, 1) := by decide +kernel
theorem d_Mo_eventSlot_285 : decode c_Mo_eventSlot 285 = .ok (.if_icmp .ne 16, 3) := by decide +kernel
theorem d_Mo_eventSlot_288 : decode c_Mo_eventSlot 288 = .ok (.aload_n 0, 1) := by decide +kernel
theorem d_Mo_eventSlot_289 : decode c_Mo_eventSlot 289 = .ok (.aload_n 0, 1) := by decide +kernel
theorem d_Mo_eventSlot_290 : decode c_Mo_eventSlot 290 = .ok (.getfield 53, 3) := by decide +kernel
theorem d_Mo_eventSlot_293 : decode c_Mo_eventSlot 293 = .ok (.iload 6, 2) := by decide +kernel
theorem d_Mo_eventSlot_295 : decode c_Mo_eventSlot 295 = .ok (.iaload, 1) := by decide +kernel
theorem d_Mo_eventSlot_296 : decode c_Mo_eventSlot 296 = .ok (.invokevirtual 167, 3) := by decide +kernel
theorem d_Mo_eventSlot_299 : decode c_Mo_eventSlot 299 = .ok (.iconst 1, 1) := by decide +kernel
theorem d_Mo_eventSlot_300 : decode c_Mo_eventSlot 300 = .ok (.ireturn, 1) := by decide +kernel
theorem d_Mo_eventSlot_301 : decode c_Mo_eventSlot 301 = .ok (.iinc 6 1, 3) := by decide +kernel
theorem d_Mo_eventSlot_304 : decode c_Mo_eventSlot 304 = .ok (.goto (-61), 3) := by decide +kernel
theorem d_Mo_eventSlot_307 : decode c_Mo_eventSlot 307 = .ok (.aload_n 0, 1) := by decide +kernel
theorem d_Mo_eventSlot_308 : decode c_Mo_eventSlot 308 = .ok (.iload_n 1, 1) := by decide +kernel
theorem d_Mo_eventSlot_309 : decode c_Mo_eventSlot 309 = .ok (.iconst 1, 1) := by decide +kernel
theorem d_Mo_eventSlot_310 : decode c_Mo_eventSlot 310 = .ok (.iadd, 1) := by decide +kernel
theorem d_Mo_eventSlot_311 : decode c_Mo_eventSlot 311 = .ok (.putfield 173, 3) := by decide +kernel
theorem d_Mo_eventSlot_314 : decode c_Mo_eventSlot 314 = .ok (.iconst 4, 1) := by decide +kernel
theorem d_Mo_eventSlot_315 : decode c_Mo_eventSlot 315 = .ok (.ireturn, 1) := by decide +kernel
def t_Mo_eventSlot (zz : Nat × Nat) : List (Nat × mx_O) := [(0, o_aload 1 0),
  (1, o_get 10 35),
  (4, o_push 1 (.int 0)),
  (5, o_aload 1 0),
  (6, o_get 10 17),
  (9, o_iload 1 1),
  (10, o_iald .int),
  (11, o_call 0 0 1 0 0 (fun _ _ => True) (S_Mo_guarded zz)),
  (14, o_iast .int (fun x => x)),
  (15, o_aload 1 0),
  (16, o_push 1 (.int 1)),
  (17, o_put 10 34 mx_vI),
  (20, o_push 3 (.int 255)),
  (23, o_istore 1 2),
  (24, o_push 1 (.int 0)),
  (25, o_istore 1 3),
  (26, o_push 1 (.int 3)),
  (27, o_iload 1 1),
  (28, o_ii (fun x y => x * y)),
  (29, o_istore 2 4),
  (31, o_iload 2 4),
  (33, o_push 1 (.int 3)),
  (34, o_iload 1 1),
  (35, o_ii (fun x y => x * y)),
  (36, o_push 1 (.int 3)),
  (37, o_ii (fun x y => x + y)),
  (38, o_icmp 93 (fun x y => y ≤ x)),
  (41, o_aload 1 0),
  (42, o_get 10 18),
  (45, o_iload 2 4),
  (47, o_iald .int),
  (48, o_push 1 (.int (-1))),
  (49, o_icmp 87 (fun x y => x = y)),
  (52, o_aload 1 0),
  (53, o_get 10 5),
  (56, o_aload 1 0),
  (57, o_get 10 18),
  (60, o_iload 2 4),
  (62, o_iald .int),
  (63, o_iald .boolean),
  (64, o_if 87 (fun x => x = 0)),
  (67, o_push 1 (.int 1)),
  (68, o_istore 1 3),
  (69, o_iload 1 2),
  (70, o_aload 1 0),
  (71, o_get 10 1),
  (74, o_aload 1 0),
  (75, o_get 10 18),
  (78, o_iload 2 4),
  (80, o_iald .int),
  (81, o_iald .int),
  (82, o_call 0 0 1 0 0 (fun _ _ => True) (S_Mo_guarded zz)),
  (85, o_ii (fun x y => x &&& y)),
  (86, o_istore 1 2),
  (87, o_iinc 4 1),
  (90, o_goto 31),
  (93, o_iload 1 3),
  (94, o_if 99 (fun x => ¬ x = 0)),
  (97, o_push 1 (.int 2)),
  (98, o_iret),
  (99, o_push 1 (.int (-1))),
  (100, o_istore 2 4),
  (102, o_push 1 (.int 3)),
  (103, o_iload 1 1),
  (104, o_ii (fun x y => x * y)),
  (105, o_istore 2 5),
  (107, o_iload 2 5),
  (109, o_push 1 (.int 3)),
  (110, o_iload 1 1),
  (111, o_ii (fun x y => x * y)),
  (112, o_push 1 (.int 3)),
  (113, o_ii (fun x y => x + y)),
  (114, o_icmp 177 (fun x y => y ≤ x)),
  (117, o_aload 1 0),
  (118, o_get 10 18),
  (121, o_iload 2 5),
  (123, o_iald .int),
  (124, o_push 1 (.int (-1))),
  (125, o_icmp 171 (fun x y => x = y)),
  (128, o_aload 1 0),
  (129, o_get 10 5),
  (132, o_aload 1 0),
  (133, o_get 10 18),
  (136, o_iload 2 5),
  (138, o_iald .int),
  (139, o_iald .boolean),
  (140, o_if 171 (fun x => x = 0)),
  (143, o_aload 1 0),
  (144, o_get 10 1),
  (147, o_aload 1 0),
  (148, o_get 10 18),
  (151, o_iload 2 5),
  (153, o_iald .int),
  (154, o_iald .int),
  (155, o_call 0 0 1 0 0 (fun _ _ => True) (S_Mo_guarded zz)),
  (158, o_iload 1 2),
  (159, o_icmp 171 (fun x y => ¬ x = y)),
  (162, o_aload 1 0),
  (163, o_get 10 18),
  (166, o_iload 2 5),
  (168, o_iald .int),
  (169, o_istore 2 4),
  (171, o_iinc 5 1),
  (174, o_goto 107),
  (177, o_iload 2 4),
  (179, o_if 191 (fun x => x < 0)),
  (182, o_aload 1 0),
  (183, o_iload 2 4),
  (185, o_call 0 0 2 0 0 (mx_rv 10) (S_Mo_respond zz)),
  (188, o_goto 203),
  (191, o_aload 1 0),
  (192, o_get 10 35),
  (195, o_push 1 (.int 1)),
  (196, o_iload 1 2),
  (197, o_iast .int (fun x => x)),
  (198, o_aload 1 0),
  (199, o_push 1 (.int 2)),
  (200, o_put 10 34 mx_vI),
  (203, o_aload 1 0),
  (204, o_call 0 0 1 0 0 (mx_rv 10) (S_Mo_disturb zz)),
  (207, o_aload 1 0),
  (208, o_get 10 18),
  (211, o_push 1 (.int 3)),
  (212, o_iload 1 1),
  (213, o_ii (fun x y => x * y)),
  (214, o_iald .int),
  (215, o_istore 2 5),
  (217, o_aload 1 0),
  (218, o_aload 1 0),
  (219, o_get 10 3),
  (222, o_iload 2 5),
  (224, o_iald .int),
  (225, o_aload 1 0),
  (226, o_get 10 4),
  (229, o_iload 2 5),
  (231, o_iald .boolean),
  (232, o_call 0 0 3 0 0 (mx_rv 10) (S_Mo_sound zz)),
  (235, o_if 307 (fun x => x = 0)),
  (238, o_push 1 (.int 3)),
  (239, o_iload 1 1),
  (240, o_ii (fun x y => x * y)),
  (241, o_istore 2 6),
  (243, o_iload 2 6),
  (245, o_push 1 (.int 3)),
  (246, o_iload 1 1),
  (247, o_ii (fun x y => x * y)),
  (248, o_push 1 (.int 3)),
  (249, o_ii (fun x y => x + y)),
  (250, o_icmp 307 (fun x y => y ≤ x)),
  (253, o_aload 1 0),
  (254, o_get 10 18),
  (257, o_iload 2 6),
  (259, o_iald .int),
  (260, o_push 1 (.int (-1))),
  (261, o_icmp 301 (fun x y => x = y)),
  (264, o_aload 1 0),
  (265, o_get 10 1),
  (268, o_aload 1 0),
  (269, o_get 10 18),
  (272, o_iload 2 6),
  (274, o_iald .int),
  (275, o_iald .int),
  (276, o_call 0 0 1 0 0 (fun _ _ => True) (S_Mo_guarded zz)),
  (279, o_aload 1 0),
  (280, o_get 10 35),
  (283, o_push 1 (.int 1)),
  (284, o_iald .int),
  (285, o_icmp 301 (fun x y => ¬ x = y)),
  (288, o_aload 1 0),
  (289, o_aload 1 0),
  (290, o_get 10 18),
  (293, o_iload 2 6),
  (295, o_iald .int),
  (296, o_call 0 0 2 0 0 (mx_rv 10) (S_Mo_receive zz)),
  (299, o_push 1 (.int 1)),
  (300, o_iret),
  (301, o_iinc 6 1),
  (304, o_goto 243),
  (307, o_aload 1 0),
  (308, o_iload 1 1),
  (309, o_push 1 (.int 1)),
  (310, o_ii (fun x y => x + y)),
  (311, o_put 10 33 mx_vI),
  (314, o_push 1 (.int 4)),
  (315, o_iret)]
set_option maxRecDepth 100000 in
theorem tm_Mo_eventSlot (zz : Nat × Nat) : mx_All (fun _ o => mx_Mono o) (t_Mo_eventSlot zz) := by
  refine mx_all_cons (mo_st) ?_
  refine mx_all_cons (mo_st) ?_
  refine mx_all_cons (mo_st) ?_
  refine mx_all_cons (mo_st) ?_
  refine mx_all_cons (mo_st) ?_
  refine mx_all_cons (mo_st) ?_
  refine mx_all_cons (mo_sc) ?_
  refine mx_all_cons (mo_call (sm_Mo_guarded zz)) ?_
  refine mx_all_cons (mo_sc) ?_
  refine mx_all_cons (mo_st) ?_
  refine mx_all_cons (mo_st) ?_
  refine mx_all_cons (mo_sc) ?_
  refine mx_all_cons (mo_st) ?_
  refine mx_all_cons (mo_st) ?_
  refine mx_all_cons (mo_st) ?_
  refine mx_all_cons (mo_st) ?_
  refine mx_all_cons (mo_st) ?_
  refine mx_all_cons (mo_st) ?_
  refine mx_all_cons (mo_st) ?_
  refine mx_all_cons (mo_st) ?_
  refine mx_all_cons (mo_st) ?_
  refine mx_all_cons (mo_st) ?_
  refine mx_all_cons (mo_st) ?_
  refine mx_all_cons (mo_st) ?_
  refine mx_all_cons (mo_st) ?_
  refine mx_all_cons (mo_st) ?_
  refine mx_all_cons (mo_br) ?_
  refine mx_all_cons (mo_st) ?_
  refine mx_all_cons (mo_st) ?_
  refine mx_all_cons (mo_st) ?_
  refine mx_all_cons (mo_sc) ?_
  refine mx_all_cons (mo_st) ?_
  refine mx_all_cons (mo_br) ?_
  refine mx_all_cons (mo_st) ?_
  refine mx_all_cons (mo_st) ?_
  refine mx_all_cons (mo_st) ?_
  refine mx_all_cons (mo_st) ?_
  refine mx_all_cons (mo_st) ?_
  refine mx_all_cons (mo_sc) ?_
  refine mx_all_cons (mo_sc) ?_
  refine mx_all_cons (mo_br) ?_
  refine mx_all_cons (mo_st) ?_
  refine mx_all_cons (mo_st) ?_
  refine mx_all_cons (mo_st) ?_
  refine mx_all_cons (mo_st) ?_
  refine mx_all_cons (mo_st) ?_
  refine mx_all_cons (mo_st) ?_
  refine mx_all_cons (mo_st) ?_
  refine mx_all_cons (mo_st) ?_
  refine mx_all_cons (mo_sc) ?_
  refine mx_all_cons (mo_sc) ?_
  refine mx_all_cons (mo_call (sm_Mo_guarded zz)) ?_
  refine mx_all_cons (mo_st) ?_
  refine mx_all_cons (mo_st) ?_
  refine mx_all_cons (mo_st) ?_
  refine mx_all_cons (mo_st) ?_
  refine mx_all_cons (mo_st) ?_
  refine mx_all_cons (mo_br) ?_
  refine mx_all_cons (mo_st) ?_
  refine mx_all_cons (mo_ret) ?_
  refine mx_all_cons (mo_st) ?_
  refine mx_all_cons (mo_st) ?_
  refine mx_all_cons (mo_st) ?_
  refine mx_all_cons (mo_st) ?_
  refine mx_all_cons (mo_st) ?_
  refine mx_all_cons (mo_st) ?_
  refine mx_all_cons (mo_st) ?_
  refine mx_all_cons (mo_st) ?_
  refine mx_all_cons (mo_st) ?_
  refine mx_all_cons (mo_st) ?_
  refine mx_all_cons (mo_st) ?_
  refine mx_all_cons (mo_st) ?_
  refine mx_all_cons (mo_br) ?_
  refine mx_all_cons (mo_st) ?_
  refine mx_all_cons (mo_st) ?_
  refine mx_all_cons (mo_st) ?_
  refine mx_all_cons (mo_sc) ?_
  refine mx_all_cons (mo_st) ?_
  refine mx_all_cons (mo_br) ?_
  refine mx_all_cons (mo_st) ?_
  refine mx_all_cons (mo_st) ?_
  refine mx_all_cons (mo_st) ?_
  refine mx_all_cons (mo_st) ?_
  refine mx_all_cons (mo_st) ?_
  refine mx_all_cons (mo_sc) ?_
  refine mx_all_cons (mo_sc) ?_
  refine mx_all_cons (mo_br) ?_
  refine mx_all_cons (mo_st) ?_
  refine mx_all_cons (mo_st) ?_
  refine mx_all_cons (mo_st) ?_
  refine mx_all_cons (mo_st) ?_
  refine mx_all_cons (mo_st) ?_
  refine mx_all_cons (mo_sc) ?_
  refine mx_all_cons (mo_sc) ?_
  refine mx_all_cons (mo_call (sm_Mo_guarded zz)) ?_
  refine mx_all_cons (mo_st) ?_
  refine mx_all_cons (mo_br) ?_
  refine mx_all_cons (mo_st) ?_
  refine mx_all_cons (mo_st) ?_
  refine mx_all_cons (mo_st) ?_
  refine mx_all_cons (mo_sc) ?_
  refine mx_all_cons (mo_st) ?_
  refine mx_all_cons (mo_st) ?_
  refine mx_all_cons (mo_st) ?_
  refine mx_all_cons (mo_st) ?_
  refine mx_all_cons (mo_br) ?_
  refine mx_all_cons (mo_st) ?_
  refine mx_all_cons (mo_st) ?_
  refine mx_all_cons (mo_call (sm_Mo_respond zz)) ?_
  refine mx_all_cons (mo_st) ?_
  refine mx_all_cons (mo_st) ?_
  refine mx_all_cons (mo_st) ?_
  refine mx_all_cons (mo_st) ?_
  refine mx_all_cons (mo_st) ?_
  refine mx_all_cons (mo_sc) ?_
  refine mx_all_cons (mo_st) ?_
  refine mx_all_cons (mo_st) ?_
  refine mx_all_cons (mo_sc) ?_
  refine mx_all_cons (mo_st) ?_
  refine mx_all_cons (mo_call (sm_Mo_disturb zz)) ?_
  refine mx_all_cons (mo_st) ?_
  refine mx_all_cons (mo_st) ?_
  refine mx_all_cons (mo_st) ?_
  refine mx_all_cons (mo_st) ?_
  refine mx_all_cons (mo_st) ?_
  refine mx_all_cons (mo_sc) ?_
  refine mx_all_cons (mo_st) ?_
  refine mx_all_cons (mo_st) ?_
  refine mx_all_cons (mo_st) ?_
  refine mx_all_cons (mo_st) ?_
  refine mx_all_cons (mo_st) ?_
  refine mx_all_cons (mo_sc) ?_
  refine mx_all_cons (mo_st) ?_
  refine mx_all_cons (mo_st) ?_
  refine mx_all_cons (mo_st) ?_
  refine mx_all_cons (mo_sc) ?_
  refine mx_all_cons (mo_call (sm_Mo_sound zz)) ?_
  refine mx_all_cons (mo_br) ?_
  refine mx_all_cons (mo_st) ?_
  refine mx_all_cons (mo_st) ?_
  refine mx_all_cons (mo_st) ?_
  refine mx_all_cons (mo_st) ?_
  refine mx_all_cons (mo_st) ?_
  refine mx_all_cons (mo_st) ?_
  refine mx_all_cons (mo_st) ?_
  refine mx_all_cons (mo_st) ?_
  refine mx_all_cons (mo_st) ?_
  refine mx_all_cons (mo_st) ?_
  refine mx_all_cons (mo_br) ?_
  refine mx_all_cons (mo_st) ?_
  refine mx_all_cons (mo_st) ?_
  refine mx_all_cons (mo_st) ?_
  refine mx_all_cons (mo_sc) ?_
  refine mx_all_cons (mo_st) ?_
  refine mx_all_cons (mo_br) ?_
  refine mx_all_cons (mo_st) ?_
  refine mx_all_cons (mo_st) ?_
  refine mx_all_cons (mo_st) ?_
  refine mx_all_cons (mo_st) ?_
  refine mx_all_cons (mo_st) ?_
  refine mx_all_cons (mo_sc) ?_
  refine mx_all_cons (mo_sc) ?_
  refine mx_all_cons (mo_call (sm_Mo_guarded zz)) ?_
  refine mx_all_cons (mo_st) ?_
  refine mx_all_cons (mo_st) ?_
  refine mx_all_cons (mo_st) ?_
  refine mx_all_cons (mo_sc) ?_
  refine mx_all_cons (mo_br) ?_
  refine mx_all_cons (mo_st) ?_
  refine mx_all_cons (mo_st) ?_
  refine mx_all_cons (mo_st) ?_
  refine mx_all_cons (mo_st) ?_
  refine mx_all_cons (mo_sc) ?_
  refine mx_all_cons (mo_call (sm_Mo_receive zz)) ?_
  refine mx_all_cons (mo_st) ?_
  refine mx_all_cons (mo_ret) ?_
  refine mx_all_cons (mo_st) ?_
  refine mx_all_cons (mo_st) ?_
  refine mx_all_cons (mo_st) ?_
  refine mx_all_cons (mo_st) ?_
  refine mx_all_cons (mo_st) ?_
  refine mx_all_cons (mo_st) ?_
  refine mx_all_cons (mo_sc) ?_
  refine mx_all_cons (mo_st) ?_
  refine mx_all_cons (mo_ret) ?_
  exact mx_all_nil
def S_Mo_eventSlot (zz : Nat × Nat) : mx_Sp := mx_S 7 0 0 (t_Mo_eventSlot zz)
theorem sm_Mo_eventSlot (zz : Nat × Nat) : mx_SMono (S_Mo_eventSlot zz) := mx_S_mono (tm_Mo_eventSlot zz)
abbrev rm_Mo_eventSlot : Room := { frames := 4, cells := 0, slots := 0, locals := 93 }
set_option maxHeartbeats 4000000 in
set_option maxRecDepth 100000 in
theorem m_Mo_eventSlot (l : Launch) (zz : Nat × Nat) : mx_Met l y_Mo_eventSlot (wsOf y_Mo_eventSlot c_Mo_eventSlot 7 (some .int)) rm_Mo_eventSlot wcl (mx_Z zz) 0 0 (S_Mo_eventSlot zz) := by
  refine mx_met (cc := c_Mo_eventSlot) (ret := (some .int)) (by decide) rfl ?_
  intro p e s m args below meth c D A Post X hz hr hlk hnm
  have hm : ∀ w ∈ mw, w.before args s = true := fun w h => X.1.2.2.2.2 w (List.mem_cons_of_mem _ h)
  refine mx_all_cons (ok_aload (fun hl kk => lv_aload_n X.1.1 X.1.2.1 d_Mo_eventSlot_0 rfl hl kk) (fun hl kk => lv_aload_nN X.1.1 X.1.2.1 d_Mo_eventSlot_0 rfl hl kk)) ?_
  refine mx_all_cons (ok_get (C := "HeaderScheduleModel") (T := T_Mo) (N := 40) X (mw_up in_Mo) rfl 35 (by decide) (hm _ w712) (fun _ h9 => h9) d_Mo_eventSlot_1) ?_
  refine mx_all_cons (ok_push (fun kk => lv_iconst X.1.1 X.1.2.1 d_Mo_eventSlot_4 (by decide) kk)) ?_
  refine mx_all_cons (ok_aload (fun hl kk => lv_aload_n X.1.1 X.1.2.1 d_Mo_eventSlot_5 rfl hl kk) (fun hl kk => lv_aload_nN X.1.1 X.1.2.1 d_Mo_eventSlot_5 rfl hl kk)) ?_
  refine mx_all_cons (ok_get (C := "HeaderScheduleModel") (T := T_Mo) (N := 40) X (mw_up in_Mo) rfl 17 (by decide) (hm _ w694) (fun _ h9 => h9) d_Mo_eventSlot_6) ?_
  refine mx_all_cons (ok_iload (fun hl kk => lv_iload_n X.1.1 X.1.2.1 d_Mo_eventSlot_9 rfl hl kk)) ?_
  refine mx_all_cons (ok_iald X d_Mo_eventSlot_10) ?_
  refine mx_all_cons (ok_callS X (mx_Zok_Z zz) hz ⟨(Nat.le_of_ble_eq_true rfl), (Nat.le_of_ble_eq_true rfl)⟩ (m_Mo_guarded l zz) ⟨mx_cwB 1 hm w891 w889 w40 rfl rfl (by decide +kernel) ⟨(Nat.le_of_ble_eq_true rfl), (Nat.le_of_ble_eq_true rfl)⟩, (hm _ w890)⟩ d_Mo_eventSlot_11) ?_
  refine mx_all_cons (ok_iast X d_Mo_eventSlot_14) ?_
  refine mx_all_cons (ok_aload (fun hl kk => lv_aload_n X.1.1 X.1.2.1 d_Mo_eventSlot_15 rfl hl kk) (fun hl kk => lv_aload_nN X.1.1 X.1.2.1 d_Mo_eventSlot_15 rfl hl kk)) ?_
  refine mx_all_cons (ok_push (fun kk => lv_iconst X.1.1 X.1.2.1 d_Mo_eventSlot_16 (by decide) kk)) ?_
  refine mx_all_cons (ok_put (C := "HeaderScheduleModel") (T := T_Mo) (N := 40) X (mw_up in_Mo) ty_Mo tyok_Mo nm_Mo rfl 34 (by decide) (hm _ w711) (fun _ h9 => h9) rfl (tyok_Mo 34 (by decide)) mx_vI_ok d_Mo_eventSlot_17) ?_
  refine mx_all_cons (ok_push (fun kk => lv_sipush X.1.1 X.1.2.1 d_Mo_eventSlot_20 (by decide) kk)) ?_
  refine mx_all_cons (ok_istore (fun hl kk => lv_istore_n X.1.1 X.1.2.1 d_Mo_eventSlot_23 rfl hl (by decide) rfl kk)) ?_
  refine mx_all_cons (ok_push (fun kk => lv_iconst X.1.1 X.1.2.1 d_Mo_eventSlot_24 (by decide) kk)) ?_
  refine mx_all_cons (ok_istore (fun hl kk => lv_istore_n X.1.1 X.1.2.1 d_Mo_eventSlot_25 rfl hl (by decide) rfl kk)) ?_
  refine mx_all_cons (ok_push (fun kk => lv_iconst X.1.1 X.1.2.1 d_Mo_eventSlot_26 (by decide) kk)) ?_
  refine mx_all_cons (ok_iload (fun hl kk => lv_iload_n X.1.1 X.1.2.1 d_Mo_eventSlot_27 rfl hl kk)) ?_
  refine mx_all_cons (ok_ii (fun kk => lv_imul X.1.1 X.1.2.1 d_Mo_eventSlot_28 kk)) ?_
  refine mx_all_cons (ok_istore (fun hl kk => lv_istore X.1.1 X.1.2.1 d_Mo_eventSlot_29 hl (by decide) rfl kk)) ?_
  refine mx_all_cons (ok_iload (fun hl kk => lv_iload X.1.1 X.1.2.1 d_Mo_eventSlot_31 hl kk)) ?_
  refine mx_all_cons (ok_push (fun kk => lv_iconst X.1.1 X.1.2.1 d_Mo_eventSlot_33 (by decide) kk)) ?_
  refine mx_all_cons (ok_iload (fun hl kk => lv_iload_n X.1.1 X.1.2.1 d_Mo_eventSlot_34 rfl hl kk)) ?_
  refine mx_all_cons (ok_ii (fun kk => lv_imul X.1.1 X.1.2.1 d_Mo_eventSlot_35 kk)) ?_
  refine mx_all_cons (ok_push (fun kk => lv_iconst X.1.1 X.1.2.1 d_Mo_eventSlot_36 (by decide) kk)) ?_
  refine mx_all_cons (ok_ii (fun kk => lv_iadd X.1.1 X.1.2.1 d_Mo_eventSlot_37 kk)) ?_
  refine mx_all_cons (ok_icmp (fun kt kf => lv_icmp_ge X.1.1 X.1.2.1 d_Mo_eventSlot_38 (by decide) kt kf)) ?_
  refine mx_all_cons (ok_aload (fun hl kk => lv_aload_n X.1.1 X.1.2.1 d_Mo_eventSlot_41 rfl hl kk) (fun hl kk => lv_aload_nN X.1.1 X.1.2.1 d_Mo_eventSlot_41 rfl hl kk)) ?_
  refine mx_all_cons (ok_get (C := "HeaderScheduleModel") (T := T_Mo) (N := 40) X (mw_up in_Mo) rfl 18 (by decide) (hm _ w695) (fun _ h9 => h9) d_Mo_eventSlot_42) ?_
  refine mx_all_cons (ok_iload (fun hl kk => lv_iload X.1.1 X.1.2.1 d_Mo_eventSlot_45 hl kk)) ?_
  refine mx_all_cons (ok_iald X d_Mo_eventSlot_47) ?_
  refine mx_all_cons (ok_push (fun kk => lv_iconst X.1.1 X.1.2.1 d_Mo_eventSlot_48 (by decide) kk)) ?_
  refine mx_all_cons (ok_icmp (fun kt kf => lv_icmp_eq X.1.1 X.1.2.1 d_Mo_eventSlot_49 (by decide) kt kf)) ?_
  refine mx_all_cons (ok_aload (fun hl kk => lv_aload_n X.1.1 X.1.2.1 d_Mo_eventSlot_52 rfl hl kk) (fun hl kk => lv_aload_nN X.1.1 X.1.2.1 d_Mo_eventSlot_52 rfl hl kk)) ?_
  refine mx_all_cons (ok_get (C := "HeaderScheduleModel") (T := T_Mo) (N := 40) X (mw_up in_Mo) rfl 5 (by decide) (hm _ w682) (fun _ h9 => h9) d_Mo_eventSlot_53) ?_
  refine mx_all_cons (ok_aload (fun hl kk => lv_aload_n X.1.1 X.1.2.1 d_Mo_eventSlot_56 rfl hl kk) (fun hl kk => lv_aload_nN X.1.1 X.1.2.1 d_Mo_eventSlot_56 rfl hl kk)) ?_
  refine mx_all_cons (ok_get (C := "HeaderScheduleModel") (T := T_Mo) (N := 40) X (mw_up in_Mo) rfl 18 (by decide) (hm _ w695) (fun _ h9 => h9) d_Mo_eventSlot_57) ?_
  refine mx_all_cons (ok_iload (fun hl kk => lv_iload X.1.1 X.1.2.1 d_Mo_eventSlot_60 hl kk)) ?_
  refine mx_all_cons (ok_iald X d_Mo_eventSlot_62) ?_
  refine mx_all_cons (ok_zald X d_Mo_eventSlot_63) ?_
  refine mx_all_cons (ok_if (fun kt kf => lv_if_eq X.1.1 X.1.2.1 d_Mo_eventSlot_64 (by decide) kt kf)) ?_
  refine mx_all_cons (ok_push (fun kk => lv_iconst X.1.1 X.1.2.1 d_Mo_eventSlot_67 (by decide) kk)) ?_
  refine mx_all_cons (ok_istore (fun hl kk => lv_istore_n X.1.1 X.1.2.1 d_Mo_eventSlot_68 rfl hl (by decide) rfl kk)) ?_
  refine mx_all_cons (ok_iload (fun hl kk => lv_iload_n X.1.1 X.1.2.1 d_Mo_eventSlot_69 rfl hl kk)) ?_
  refine mx_all_cons (ok_aload (fun hl kk => lv_aload_n X.1.1 X.1.2.1 d_Mo_eventSlot_70 rfl hl kk) (fun hl kk => lv_aload_nN X.1.1 X.1.2.1 d_Mo_eventSlot_70 rfl hl kk)) ?_
  refine mx_all_cons (ok_get (C := "HeaderScheduleModel") (T := T_Mo) (N := 40) X (mw_up in_Mo) rfl 1 (by decide) (hm _ w678) (fun _ h9 => h9) d_Mo_eventSlot_71) ?_
  refine mx_all_cons (ok_aload (fun hl kk => lv_aload_n X.1.1 X.1.2.1 d_Mo_eventSlot_74 rfl hl kk) (fun hl kk => lv_aload_nN X.1.1 X.1.2.1 d_Mo_eventSlot_74 rfl hl kk)) ?_
  refine mx_all_cons (ok_get (C := "HeaderScheduleModel") (T := T_Mo) (N := 40) X (mw_up in_Mo) rfl 18 (by decide) (hm _ w695) (fun _ h9 => h9) d_Mo_eventSlot_75) ?_
  refine mx_all_cons (ok_iload (fun hl kk => lv_iload X.1.1 X.1.2.1 d_Mo_eventSlot_78 hl kk)) ?_
  refine mx_all_cons (ok_iald X d_Mo_eventSlot_80) ?_
  refine mx_all_cons (ok_iald X d_Mo_eventSlot_81) ?_
  refine mx_all_cons (ok_callS X (mx_Zok_Z zz) hz ⟨(Nat.le_of_ble_eq_true rfl), (Nat.le_of_ble_eq_true rfl)⟩ (m_Mo_guarded l zz) ⟨mx_cwB 1 hm w891 w889 w40 rfl rfl (by decide +kernel) ⟨(Nat.le_of_ble_eq_true rfl), (Nat.le_of_ble_eq_true rfl)⟩, (hm _ w890)⟩ d_Mo_eventSlot_82) ?_
  refine mx_all_cons (ok_ii (fun kk => lv_iand X.1.1 X.1.2.1 d_Mo_eventSlot_85 kk)) ?_
  refine mx_all_cons (ok_istore (fun hl kk => lv_istore_n X.1.1 X.1.2.1 d_Mo_eventSlot_86 rfl hl (by decide) rfl kk)) ?_
  refine mx_all_cons (ok_iinc X (by decide) (by decide) d_Mo_eventSlot_87) ?_
  refine mx_all_cons (ok_goto X d_Mo_eventSlot_90 (by decide)) ?_
  refine mx_all_cons (ok_iload (fun hl kk => lv_iload_n X.1.1 X.1.2.1 d_Mo_eventSlot_93 rfl hl kk)) ?_
  refine mx_all_cons (ok_if (fun kt kf => lv_if_ne X.1.1 X.1.2.1 d_Mo_eventSlot_94 (by decide) kt (fun z => kf (fun g => g z)))) ?_
  refine mx_all_cons (ok_push (fun kk => lv_iconst X.1.1 X.1.2.1 d_Mo_eventSlot_97 (by decide) kk)) ?_
  refine mx_all_cons (ok_iret X hr hlk d_Mo_eventSlot_98) ?_
  refine mx_all_cons (ok_push (fun kk => lv_iconst X.1.1 X.1.2.1 d_Mo_eventSlot_99 (by decide) kk)) ?_
  refine mx_all_cons (ok_istore (fun hl kk => lv_istore X.1.1 X.1.2.1 d_Mo_eventSlot_100 hl (by decide) rfl kk)) ?_
  refine mx_all_cons (ok_push (fun kk => lv_iconst X.1.1 X.1.2.1 d_Mo_eventSlot_102 (by decide) kk)) ?_
  refine mx_all_cons (ok_iload (fun hl kk => lv_iload_n X.1.1 X.1.2.1 d_Mo_eventSlot_103 rfl hl kk)) ?_
  refine mx_all_cons (ok_ii (fun kk => lv_imul X.1.1 X.1.2.1 d_Mo_eventSlot_104 kk)) ?_
  refine mx_all_cons (ok_istore (fun hl kk => lv_istore X.1.1 X.1.2.1 d_Mo_eventSlot_105 hl (by decide) rfl kk)) ?_
  refine mx_all_cons (ok_iload (fun hl kk => lv_iload X.1.1 X.1.2.1 d_Mo_eventSlot_107 hl kk)) ?_
  refine mx_all_cons (ok_push (fun kk => lv_iconst X.1.1 X.1.2.1 d_Mo_eventSlot_109 (by decide) kk)) ?_
  refine mx_all_cons (ok_iload (fun hl kk => lv_iload_n X.1.1 X.1.2.1 d_Mo_eventSlot_110 rfl hl kk)) ?_
  refine mx_all_cons (ok_ii (fun kk => lv_imul X.1.1 X.1.2.1 d_Mo_eventSlot_111 kk)) ?_
  refine mx_all_cons (ok_push (fun kk => lv_iconst X.1.1 X.1.2.1 d_Mo_eventSlot_112 (by decide) kk)) ?_
  refine mx_all_cons (ok_ii (fun kk => lv_iadd X.1.1 X.1.2.1 d_Mo_eventSlot_113 kk)) ?_
  refine mx_all_cons (ok_icmp (fun kt kf => lv_icmp_ge X.1.1 X.1.2.1 d_Mo_eventSlot_114 (by decide) kt kf)) ?_
  refine mx_all_cons (ok_aload (fun hl kk => lv_aload_n X.1.1 X.1.2.1 d_Mo_eventSlot_117 rfl hl kk) (fun hl kk => lv_aload_nN X.1.1 X.1.2.1 d_Mo_eventSlot_117 rfl hl kk)) ?_
  refine mx_all_cons (ok_get (C := "HeaderScheduleModel") (T := T_Mo) (N := 40) X (mw_up in_Mo) rfl 18 (by decide) (hm _ w695) (fun _ h9 => h9) d_Mo_eventSlot_118) ?_
  refine mx_all_cons (ok_iload (fun hl kk => lv_iload X.1.1 X.1.2.1 d_Mo_eventSlot_121 hl kk)) ?_
  refine mx_all_cons (ok_iald X d_Mo_eventSlot_123) ?_
  refine mx_all_cons (ok_push (fun kk => lv_iconst X.1.1 X.1.2.1 d_Mo_eventSlot_124 (by decide) kk)) ?_
  refine mx_all_cons (ok_icmp (fun kt kf => lv_icmp_eq X.1.1 X.1.2.1 d_Mo_eventSlot_125 (by decide) kt kf)) ?_
  refine mx_all_cons (ok_aload (fun hl kk => lv_aload_n X.1.1 X.1.2.1 d_Mo_eventSlot_128 rfl hl kk) (fun hl kk => lv_aload_nN X.1.1 X.1.2.1 d_Mo_eventSlot_128 rfl hl kk)) ?_
  refine mx_all_cons (ok_get (C := "HeaderScheduleModel") (T := T_Mo) (N := 40) X (mw_up in_Mo) rfl 5 (by decide) (hm _ w682) (fun _ h9 => h9) d_Mo_eventSlot_129) ?_
  refine mx_all_cons (ok_aload (fun hl kk => lv_aload_n X.1.1 X.1.2.1 d_Mo_eventSlot_132 rfl hl kk) (fun hl kk => lv_aload_nN X.1.1 X.1.2.1 d_Mo_eventSlot_132 rfl hl kk)) ?_
  refine mx_all_cons (ok_get (C := "HeaderScheduleModel") (T := T_Mo) (N := 40) X (mw_up in_Mo) rfl 18 (by decide) (hm _ w695) (fun _ h9 => h9) d_Mo_eventSlot_133) ?_
  refine mx_all_cons (ok_iload (fun hl kk => lv_iload X.1.1 X.1.2.1 d_Mo_eventSlot_136 hl kk)) ?_
  refine mx_all_cons (ok_iald X d_Mo_eventSlot_138) ?_
  refine mx_all_cons (ok_zald X d_Mo_eventSlot_139) ?_
  refine mx_all_cons (ok_if (fun kt kf => lv_if_eq X.1.1 X.1.2.1 d_Mo_eventSlot_140 (by decide) kt kf)) ?_
  refine mx_all_cons (ok_aload (fun hl kk => lv_aload_n X.1.1 X.1.2.1 d_Mo_eventSlot_143 rfl hl kk) (fun hl kk => lv_aload_nN X.1.1 X.1.2.1 d_Mo_eventSlot_143 rfl hl kk)) ?_
  refine mx_all_cons (ok_get (C := "HeaderScheduleModel") (T := T_Mo) (N := 40) X (mw_up in_Mo) rfl 1 (by decide) (hm _ w678) (fun _ h9 => h9) d_Mo_eventSlot_144) ?_
  refine mx_all_cons (ok_aload (fun hl kk => lv_aload_n X.1.1 X.1.2.1 d_Mo_eventSlot_147 rfl hl kk) (fun hl kk => lv_aload_nN X.1.1 X.1.2.1 d_Mo_eventSlot_147 rfl hl kk)) ?_
  refine mx_all_cons (ok_get (C := "HeaderScheduleModel") (T := T_Mo) (N := 40) X (mw_up in_Mo) rfl 18 (by decide) (hm _ w695) (fun _ h9 => h9) d_Mo_eventSlot_148) ?_
  refine mx_all_cons (ok_iload (fun hl kk => lv_iload X.1.1 X.1.2.1 d_Mo_eventSlot_151 hl kk)) ?_
  refine mx_all_cons (ok_iald X d_Mo_eventSlot_153) ?_
  refine mx_all_cons (ok_iald X d_Mo_eventSlot_154) ?_
  refine mx_all_cons (ok_callS X (mx_Zok_Z zz) hz ⟨(Nat.le_of_ble_eq_true rfl), (Nat.le_of_ble_eq_true rfl)⟩ (m_Mo_guarded l zz) ⟨mx_cwB 1 hm w891 w889 w40 rfl rfl (by decide +kernel) ⟨(Nat.le_of_ble_eq_true rfl), (Nat.le_of_ble_eq_true rfl)⟩, (hm _ w890)⟩ d_Mo_eventSlot_155) ?_
  refine mx_all_cons (ok_iload (fun hl kk => lv_iload_n X.1.1 X.1.2.1 d_Mo_eventSlot_158 rfl hl kk)) ?_
  refine mx_all_cons (ok_icmp (fun kt kf => lv_icmp_ne X.1.1 X.1.2.1 d_Mo_eventSlot_159 (by decide) kt (fun z => kf (fun g => g z)))) ?_
  refine mx_all_cons (ok_aload (fun hl kk => lv_aload_n X.1.1 X.1.2.1 d_Mo_eventSlot_162 rfl hl kk) (fun hl kk => lv_aload_nN X.1.1 X.1.2.1 d_Mo_eventSlot_162 rfl hl kk)) ?_
  refine mx_all_cons (ok_get (C := "HeaderScheduleModel") (T := T_Mo) (N := 40) X (mw_up in_Mo) rfl 18 (by decide) (hm _ w695) (fun _ h9 => h9) d_Mo_eventSlot_163) ?_
  refine mx_all_cons (ok_iload (fun hl kk => lv_iload X.1.1 X.1.2.1 d_Mo_eventSlot_166 hl kk)) ?_
  refine mx_all_cons (ok_iald X d_Mo_eventSlot_168) ?_
  refine mx_all_cons (ok_istore (fun hl kk => lv_istore X.1.1 X.1.2.1 d_Mo_eventSlot_169 hl (by decide) rfl kk)) ?_
  refine mx_all_cons (ok_iinc X (by decide) (by decide) d_Mo_eventSlot_171) ?_
  refine mx_all_cons (ok_goto X d_Mo_eventSlot_174 (by decide)) ?_
  refine mx_all_cons (ok_iload (fun hl kk => lv_iload X.1.1 X.1.2.1 d_Mo_eventSlot_177 hl kk)) ?_
  refine mx_all_cons (ok_if (fun kt kf => lv_if_lt X.1.1 X.1.2.1 d_Mo_eventSlot_179 (by decide) kt kf)) ?_
  refine mx_all_cons (ok_aload (fun hl kk => lv_aload_n X.1.1 X.1.2.1 d_Mo_eventSlot_182 rfl hl kk) (fun hl kk => lv_aload_nN X.1.1 X.1.2.1 d_Mo_eventSlot_182 rfl hl kk)) ?_
  refine mx_all_cons (ok_iload (fun hl kk => lv_iload X.1.1 X.1.2.1 d_Mo_eventSlot_183 hl kk)) ?_
  refine mx_all_cons (ok_callV (C := "HeaderScheduleModel") (T := T_Mo) (N := 40) X (mx_Zok_Z zz) hz ⟨(Nat.le_of_ble_eq_true rfl), (Nat.le_of_ble_eq_true rfl)⟩ (m_Mo_respond l zz) ⟨mx_cwB 1 hm w898 w895 w40 rfl rfl (by decide +kernel) ⟨(Nat.le_of_ble_eq_true rfl), (Nat.le_of_ble_eq_true rfl)⟩, (hm _ w897), hm _ w25⟩ rfl d_Mo_eventSlot_185) ?_
  refine mx_all_cons (ok_goto X d_Mo_eventSlot_188 (by decide)) ?_
  refine mx_all_cons (ok_aload (fun hl kk => lv_aload_n X.1.1 X.1.2.1 d_Mo_eventSlot_191 rfl hl kk) (fun hl kk => lv_aload_nN X.1.1 X.1.2.1 d_Mo_eventSlot_191 rfl hl kk)) ?_
  refine mx_all_cons (ok_get (C := "HeaderScheduleModel") (T := T_Mo) (N := 40) X (mw_up in_Mo) rfl 35 (by decide) (hm _ w712) (fun _ h9 => h9) d_Mo_eventSlot_192) ?_
  refine mx_all_cons (ok_push (fun kk => lv_iconst X.1.1 X.1.2.1 d_Mo_eventSlot_195 (by decide) kk)) ?_
  refine mx_all_cons (ok_iload (fun hl kk => lv_iload_n X.1.1 X.1.2.1 d_Mo_eventSlot_196 rfl hl kk)) ?_
  refine mx_all_cons (ok_iast X d_Mo_eventSlot_197) ?_
  refine mx_all_cons (ok_aload (fun hl kk => lv_aload_n X.1.1 X.1.2.1 d_Mo_eventSlot_198 rfl hl kk) (fun hl kk => lv_aload_nN X.1.1 X.1.2.1 d_Mo_eventSlot_198 rfl hl kk)) ?_
  refine mx_all_cons (ok_push (fun kk => lv_iconst X.1.1 X.1.2.1 d_Mo_eventSlot_199 (by decide) kk)) ?_
  refine mx_all_cons (ok_put (C := "HeaderScheduleModel") (T := T_Mo) (N := 40) X (mw_up in_Mo) ty_Mo tyok_Mo nm_Mo rfl 34 (by decide) (hm _ w711) (fun _ h9 => h9) rfl (tyok_Mo 34 (by decide)) mx_vI_ok d_Mo_eventSlot_200) ?_
  refine mx_all_cons (ok_aload (fun hl kk => lv_aload_n X.1.1 X.1.2.1 d_Mo_eventSlot_203 rfl hl kk) (fun hl kk => lv_aload_nN X.1.1 X.1.2.1 d_Mo_eventSlot_203 rfl hl kk)) ?_
  refine mx_all_cons (ok_callV (C := "HeaderScheduleModel") (T := T_Mo) (N := 40) X (mx_Zok_Z zz) hz ⟨(Nat.le_of_ble_eq_true rfl), (Nat.le_of_ble_eq_true rfl)⟩ (m_Mo_disturb l zz) ⟨mx_cwB 0 hm w909 w906 w40 rfl rfl (by decide +kernel) ⟨(Nat.le_of_ble_eq_true rfl), (Nat.le_of_ble_eq_true rfl)⟩, (hm _ w908), hm _ w27⟩ rfl d_Mo_eventSlot_204) ?_
  refine mx_all_cons (ok_aload (fun hl kk => lv_aload_n X.1.1 X.1.2.1 d_Mo_eventSlot_207 rfl hl kk) (fun hl kk => lv_aload_nN X.1.1 X.1.2.1 d_Mo_eventSlot_207 rfl hl kk)) ?_
  refine mx_all_cons (ok_get (C := "HeaderScheduleModel") (T := T_Mo) (N := 40) X (mw_up in_Mo) rfl 18 (by decide) (hm _ w695) (fun _ h9 => h9) d_Mo_eventSlot_208) ?_
  refine mx_all_cons (ok_push (fun kk => lv_iconst X.1.1 X.1.2.1 d_Mo_eventSlot_211 (by decide) kk)) ?_
  refine mx_all_cons (ok_iload (fun hl kk => lv_iload_n X.1.1 X.1.2.1 d_Mo_eventSlot_212 rfl hl kk)) ?_
  refine mx_all_cons (ok_ii (fun kk => lv_imul X.1.1 X.1.2.1 d_Mo_eventSlot_213 kk)) ?_
  refine mx_all_cons (ok_iald X d_Mo_eventSlot_214) ?_
  refine mx_all_cons (ok_istore (fun hl kk => lv_istore X.1.1 X.1.2.1 d_Mo_eventSlot_215 hl (by decide) rfl kk)) ?_
  refine mx_all_cons (ok_aload (fun hl kk => lv_aload_n X.1.1 X.1.2.1 d_Mo_eventSlot_217 rfl hl kk) (fun hl kk => lv_aload_nN X.1.1 X.1.2.1 d_Mo_eventSlot_217 rfl hl kk)) ?_
  refine mx_all_cons (ok_aload (fun hl kk => lv_aload_n X.1.1 X.1.2.1 d_Mo_eventSlot_218 rfl hl kk) (fun hl kk => lv_aload_nN X.1.1 X.1.2.1 d_Mo_eventSlot_218 rfl hl kk)) ?_
  refine mx_all_cons (ok_get (C := "HeaderScheduleModel") (T := T_Mo) (N := 40) X (mw_up in_Mo) rfl 3 (by decide) (hm _ w680) (fun _ h9 => h9) d_Mo_eventSlot_219) ?_
  refine mx_all_cons (ok_iload (fun hl kk => lv_iload X.1.1 X.1.2.1 d_Mo_eventSlot_222 hl kk)) ?_
  refine mx_all_cons (ok_iald X d_Mo_eventSlot_224) ?_
  refine mx_all_cons (ok_aload (fun hl kk => lv_aload_n X.1.1 X.1.2.1 d_Mo_eventSlot_225 rfl hl kk) (fun hl kk => lv_aload_nN X.1.1 X.1.2.1 d_Mo_eventSlot_225 rfl hl kk)) ?_
  refine mx_all_cons (ok_get (C := "HeaderScheduleModel") (T := T_Mo) (N := 40) X (mw_up in_Mo) rfl 4 (by decide) (hm _ w681) (fun _ h9 => h9) d_Mo_eventSlot_226) ?_
  refine mx_all_cons (ok_iload (fun hl kk => lv_iload X.1.1 X.1.2.1 d_Mo_eventSlot_229 hl kk)) ?_
  refine mx_all_cons (ok_zald X d_Mo_eventSlot_231) ?_
  refine mx_all_cons (ok_callV (C := "HeaderScheduleModel") (T := T_Mo) (N := 40) X (mx_Zok_Z zz) hz ⟨(Nat.le_of_ble_eq_true rfl), (Nat.le_of_ble_eq_true rfl)⟩ (m_Mo_sound l zz) ⟨mx_cwB 2 hm w913 w910 w40 rfl rfl (by decide +kernel) ⟨(Nat.le_of_ble_eq_true rfl), (Nat.le_of_ble_eq_true rfl)⟩, (hm _ w912), hm _ w28⟩ rfl d_Mo_eventSlot_232) ?_
  refine mx_all_cons (ok_if (fun kt kf => lv_if_eq X.1.1 X.1.2.1 d_Mo_eventSlot_235 (by decide) kt kf)) ?_
  refine mx_all_cons (ok_push (fun kk => lv_iconst X.1.1 X.1.2.1 d_Mo_eventSlot_238 (by decide) kk)) ?_
  refine mx_all_cons (ok_iload (fun hl kk => lv_iload_n X.1.1 X.1.2.1 d_Mo_eventSlot_239 rfl hl kk)) ?_
  refine mx_all_cons (ok_ii (fun kk => lv_imul X.1.1 X.1.2.1 d_Mo_eventSlot_240 kk)) ?_
  refine mx_all_cons (ok_istore (fun hl kk => lv_istore X.1.1 X.1.2.1 d_Mo_eventSlot_241 hl (by decide) rfl kk)) ?_
  refine mx_all_cons (ok_iload (fun hl kk => lv_iload X.1.1 X.1.2.1 d_Mo_eventSlot_243 hl kk)) ?_
  refine mx_all_cons (ok_push (fun kk => lv_iconst X.1.1 X.1.2.1 d_Mo_eventSlot_245 (by decide) kk)) ?_
  refine mx_all_cons (ok_iload (fun hl kk => lv_iload_n X.1.1 X.1.2.1 d_Mo_eventSlot_246 rfl hl kk)) ?_
  refine mx_all_cons (ok_ii (fun kk => lv_imul X.1.1 X.1.2.1 d_Mo_eventSlot_247 kk)) ?_
  refine mx_all_cons (ok_push (fun kk => lv_iconst X.1.1 X.1.2.1 d_Mo_eventSlot_248 (by decide) kk)) ?_
  refine mx_all_cons (ok_ii (fun kk => lv_iadd X.1.1 X.1.2.1 d_Mo_eventSlot_249 kk)) ?_
  refine mx_all_cons (ok_icmp (fun kt kf => lv_icmp_ge X.1.1 X.1.2.1 d_Mo_eventSlot_250 (by decide) kt kf)) ?_
  refine mx_all_cons (ok_aload (fun hl kk => lv_aload_n X.1.1 X.1.2.1 d_Mo_eventSlot_253 rfl hl kk) (fun hl kk => lv_aload_nN X.1.1 X.1.2.1 d_Mo_eventSlot_253 rfl hl kk)) ?_
  refine mx_all_cons (ok_get (C := "HeaderScheduleModel") (T := T_Mo) (N := 40) X (mw_up in_Mo) rfl 18 (by decide) (hm _ w695) (fun _ h9 => h9) d_Mo_eventSlot_254) ?_
  refine mx_all_cons (ok_iload (fun hl kk => lv_iload X.1.1 X.1.2.1 d_Mo_eventSlot_257 hl kk)) ?_
  refine mx_all_cons (ok_iald X d_Mo_eventSlot_259) ?_
  refine mx_all_cons (ok_push (fun kk => lv_iconst X.1.1 X.1.2.1 d_Mo_eventSlot_260 (by decide) kk)) ?_
  refine mx_all_cons (ok_icmp (fun kt kf => lv_icmp_eq X.1.1 X.1.2.1 d_Mo_eventSlot_261 (by decide) kt kf)) ?_
  refine mx_all_cons (ok_aload (fun hl kk => lv_aload_n X.1.1 X.1.2.1 d_Mo_eventSlot_264 rfl hl kk) (fun hl kk => lv_aload_nN X.1.1 X.1.2.1 d_Mo_eventSlot_264 rfl hl kk)) ?_
  refine mx_all_cons (ok_get (C := "HeaderScheduleModel") (T := T_Mo) (N := 40) X (mw_up in_Mo) rfl 1 (by decide) (hm _ w678) (fun _ h9 => h9) d_Mo_eventSlot_265) ?_
  refine mx_all_cons (ok_aload (fun hl kk => lv_aload_n X.1.1 X.1.2.1 d_Mo_eventSlot_268 rfl hl kk) (fun hl kk => lv_aload_nN X.1.1 X.1.2.1 d_Mo_eventSlot_268 rfl hl kk)) ?_
  refine mx_all_cons (ok_get (C := "HeaderScheduleModel") (T := T_Mo) (N := 40) X (mw_up in_Mo) rfl 18 (by decide) (hm _ w695) (fun _ h9 => h9) d_Mo_eventSlot_269) ?_
  refine mx_all_cons (ok_iload (fun hl kk => lv_iload X.1.1 X.1.2.1 d_Mo_eventSlot_272 hl kk)) ?_
  refine mx_all_cons (ok_iald X d_Mo_eventSlot_274) ?_
  refine mx_all_cons (ok_iald X d_Mo_eventSlot_275) ?_
  refine mx_all_cons (ok_callS X (mx_Zok_Z zz) hz ⟨(Nat.le_of_ble_eq_true rfl), (Nat.le_of_ble_eq_true rfl)⟩ (m_Mo_guarded l zz) ⟨mx_cwB 1 hm w891 w889 w40 rfl rfl (by decide +kernel) ⟨(Nat.le_of_ble_eq_true rfl), (Nat.le_of_ble_eq_true rfl)⟩, (hm _ w890)⟩ d_Mo_eventSlot_276) ?_
  refine mx_all_cons (ok_aload (fun hl kk => lv_aload_n X.1.1 X.1.2.1 d_Mo_eventSlot_279 rfl hl kk) (fun hl kk => lv_aload_nN X.1.1 X.1.2.1 d_Mo_eventSlot_279 rfl hl kk)) ?_
  refine mx_all_cons (ok_get (C := "HeaderScheduleModel") (T := T_Mo) (N := 40) X (mw_up in_Mo) rfl 35 (by decide) (hm _ w712) (fun _ h9 => h9) d_Mo_eventSlot_280) ?_
  refine mx_all_cons (ok_push (fun kk => lv_iconst X.1.1 X.1.2.1 d_Mo_eventSlot_283 (by decide) kk)) ?_
  refine mx_all_cons (ok_iald X d_Mo_eventSlot_284) ?_
  refine mx_all_cons (ok_icmp (fun kt kf => lv_icmp_ne X.1.1 X.1.2.1 d_Mo_eventSlot_285 (by decide) kt (fun z => kf (fun g => g z)))) ?_
  refine mx_all_cons (ok_aload (fun hl kk => lv_aload_n X.1.1 X.1.2.1 d_Mo_eventSlot_288 rfl hl kk) (fun hl kk => lv_aload_nN X.1.1 X.1.2.1 d_Mo_eventSlot_288 rfl hl kk)) ?_
  refine mx_all_cons (ok_aload (fun hl kk => lv_aload_n X.1.1 X.1.2.1 d_Mo_eventSlot_289 rfl hl kk) (fun hl kk => lv_aload_nN X.1.1 X.1.2.1 d_Mo_eventSlot_289 rfl hl kk)) ?_
  refine mx_all_cons (ok_get (C := "HeaderScheduleModel") (T := T_Mo) (N := 40) X (mw_up in_Mo) rfl 18 (by decide) (hm _ w695) (fun _ h9 => h9) d_Mo_eventSlot_290) ?_
  refine mx_all_cons (ok_iload (fun hl kk => lv_iload X.1.1 X.1.2.1 d_Mo_eventSlot_293 hl kk)) ?_
  refine mx_all_cons (ok_iald X d_Mo_eventSlot_295) ?_
  refine mx_all_cons (ok_callV (C := "HeaderScheduleModel") (T := T_Mo) (N := 40) X (mx_Zok_Z zz) hz ⟨(Nat.le_of_ble_eq_true rfl), (Nat.le_of_ble_eq_true rfl)⟩ (m_Mo_receive l zz) ⟨mx_cwB 1 hm w917 w914 w40 rfl rfl (by decide +kernel) ⟨(Nat.le_of_ble_eq_true rfl), (Nat.le_of_ble_eq_true rfl)⟩, (hm _ w916), hm _ w29⟩ rfl d_Mo_eventSlot_296) ?_
  refine mx_all_cons (ok_push (fun kk => lv_iconst X.1.1 X.1.2.1 d_Mo_eventSlot_299 (by decide) kk)) ?_
  refine mx_all_cons (ok_iret X hr hlk d_Mo_eventSlot_300) ?_
  refine mx_all_cons (ok_iinc X (by decide) (by decide) d_Mo_eventSlot_301) ?_
  refine mx_all_cons (ok_goto X d_Mo_eventSlot_304 (by decide)) ?_
  refine mx_all_cons (ok_aload (fun hl kk => lv_aload_n X.1.1 X.1.2.1 d_Mo_eventSlot_307 rfl hl kk) (fun hl kk => lv_aload_nN X.1.1 X.1.2.1 d_Mo_eventSlot_307 rfl hl kk)) ?_
  refine mx_all_cons (ok_iload (fun hl kk => lv_iload_n X.1.1 X.1.2.1 d_Mo_eventSlot_308 rfl hl kk)) ?_
  refine mx_all_cons (ok_push (fun kk => lv_iconst X.1.1 X.1.2.1 d_Mo_eventSlot_309 (by decide) kk)) ?_
  refine mx_all_cons (ok_ii (fun kk => lv_iadd X.1.1 X.1.2.1 d_Mo_eventSlot_310 kk)) ?_
  refine mx_all_cons (ok_put (C := "HeaderScheduleModel") (T := T_Mo) (N := 40) X (mw_up in_Mo) ty_Mo tyok_Mo nm_Mo rfl 33 (by decide) (hm _ w710) (fun _ h9 => h9) rfl (tyok_Mo 33 (by decide)) mx_vI_ok d_Mo_eventSlot_311) ?_
  refine mx_all_cons (ok_push (fun kk => lv_iconst X.1.1 X.1.2.1 d_Mo_eventSlot_314 (by decide) kk)) ?_
  refine mx_all_cons (ok_iret X hr hlk d_Mo_eventSlot_315) ?_
  exact mx_all_nil
theorem st_Mo_eventSlot_0 (zz : Nat × Nat) (r : mx_T) (ls : mx_L) (st : List Value) (h : mx_H) (c n : Nat) : mx_G r (t_Mo_eventSlot zz) 0 ls st h c n = (o_aload 1 0) r (mx_G r (t_Mo_eventSlot zz)) 0 ls st h c n := mx_G_eq (tm_Mo_eventSlot zz) r 0 ls st h c n
theorem st_Mo_eventSlot_1 (zz : Nat × Nat) (r : mx_T) (ls : mx_L) (st : List Value) (h : mx_H) (c n : Nat) : mx_G r (t_Mo_eventSlot zz) 1 ls st h c n = (o_get 10 35) r (mx_G r (t_Mo_eventSlot zz)) 1 ls st h c n := mx_G_eq (tm_Mo_eventSlot zz) r 1 ls st h c n
theorem st_Mo_eventSlot_4 (zz : Nat × Nat) (r : mx_T) (ls : mx_L) (st : List Value) (h : mx_H) (c n : Nat) : mx_G r (t_Mo_eventSlot zz) 4 ls st h c n = (o_push 1 (.int 0)) r (mx_G r (t_Mo_eventSlot zz)) 4 ls st h c n := mx_G_eq (tm_Mo_eventSlot zz) r 4 ls st h c n
theorem st_Mo_eventSlot_5 (zz : Nat × Nat) (r : mx_T) (ls : mx_L) (st : List Value) (h : mx_H) (c n : Nat) : mx_G r (t_Mo_eventSlot zz) 5 ls st h c n = (o_aload 1 0) r (mx_G r (t_Mo_eventSlot zz)) 5 ls st h c n := mx_G_eq (tm_Mo_eventSlot zz) r 5 ls st h c n
theorem st_Mo_eventSlot_6 (zz : Nat × Nat) (r : mx_T) (ls : mx_L) (st : List Value) (h : mx_H) (c n : Nat) : mx_G r (t_Mo_eventSlot zz) 6 ls st h c n = (o_get 10 17) r (mx_G r (t_Mo_eventSlot zz)) 6 ls st h c n := mx_G_eq (tm_Mo_eventSlot zz) r 6 ls st h c n
theorem st_Mo_eventSlot_9 (zz : Nat × Nat) (r : mx_T) (ls : mx_L) (st : List Value) (h : mx_H) (c n : Nat) : mx_G r (t_Mo_eventSlot zz) 9 ls st h c n = (o_iload 1 1) r (mx_G r (t_Mo_eventSlot zz)) 9 ls st h c n := mx_G_eq (tm_Mo_eventSlot zz) r 9 ls st h c n
theorem st_Mo_eventSlot_10 (zz : Nat × Nat) (r : mx_T) (ls : mx_L) (st : List Value) (h : mx_H) (c n : Nat) : mx_G r (t_Mo_eventSlot zz) 10 ls st h c n = (o_iald .int) r (mx_G r (t_Mo_eventSlot zz)) 10 ls st h c n := mx_G_eq (tm_Mo_eventSlot zz) r 10 ls st h c n
theorem st_Mo_eventSlot_11 (zz : Nat × Nat) (r : mx_T) (ls : mx_L) (st : List Value) (h : mx_H) (c n : Nat) : mx_G r (t_Mo_eventSlot zz) 11 ls st h c n = (o_call 0 0 1 0 0 (fun _ _ => True) (S_Mo_guarded zz)) r (mx_G r (t_Mo_eventSlot zz)) 11 ls st h c n := mx_G_eq (tm_Mo_eventSlot zz) r 11 ls st h c n
theorem st_Mo_eventSlot_14 (zz : Nat × Nat) (r : mx_T) (ls : mx_L) (st : List Value) (h : mx_H) (c n : Nat) : mx_G r (t_Mo_eventSlot zz) 14 ls st h c n = (o_iast .int (fun x => x)) r (mx_G r (t_Mo_eventSlot zz)) 14 ls st h c n := mx_G_eq (tm_Mo_eventSlot zz) r 14 ls st h c n
theorem st_Mo_eventSlot_15 (zz : Nat × Nat) (r : mx_T) (ls : mx_L) (st : List Value) (h : mx_H) (c n : Nat) : mx_G r (t_Mo_eventSlot zz) 15 ls st h c n = (o_aload 1 0) r (mx_G r (t_Mo_eventSlot zz)) 15 ls st h c n := mx_G_eq (tm_Mo_eventSlot zz) r 15 ls st h c n
theorem st_Mo_eventSlot_16 (zz : Nat × Nat) (r : mx_T) (ls : mx_L) (st : List Value) (h : mx_H) (c n : Nat) : mx_G r (t_Mo_eventSlot zz) 16 ls st h c n = (o_push 1 (.int 1)) r (mx_G r (t_Mo_eventSlot zz)) 16 ls st h c n := mx_G_eq (tm_Mo_eventSlot zz) r 16 ls st h c n
theorem st_Mo_eventSlot_17 (zz : Nat × Nat) (r : mx_T) (ls : mx_L) (st : List Value) (h : mx_H) (c n : Nat) : mx_G r (t_Mo_eventSlot zz) 17 ls st h c n = (o_put 10 34 mx_vI) r (mx_G r (t_Mo_eventSlot zz)) 17 ls st h c n := mx_G_eq (tm_Mo_eventSlot zz) r 17 ls st h c n
theorem st_Mo_eventSlot_20 (zz : Nat × Nat) (r : mx_T) (ls : mx_L) (st : List Value) (h : mx_H) (c n : Nat) : mx_G r (t_Mo_eventSlot zz) 20 ls st h c n = (o_push 3 (.int 255)) r (mx_G r (t_Mo_eventSlot zz)) 20 ls st h c n := mx_G_eq (tm_Mo_eventSlot zz) r 20 ls st h c n
theorem st_Mo_eventSlot_23 (zz : Nat × Nat) (r : mx_T) (ls : mx_L) (st : List Value) (h : mx_H) (c n : Nat) : mx_G r (t_Mo_eventSlot zz) 23 ls st h c n = (o_istore 1 2) r (mx_G r (t_Mo_eventSlot zz)) 23 ls st h c n := mx_G_eq (tm_Mo_eventSlot zz) r 23 ls st h c n
theorem st_Mo_eventSlot_24 (zz : Nat × Nat) (r : mx_T) (ls : mx_L) (st : List Value) (h : mx_H) (c n : Nat) : mx_G r (t_Mo_eventSlot zz) 24 ls st h c n = (o_push 1 (.int 0)) r (mx_G r (t_Mo_eventSlot zz)) 24 ls st h c n := mx_G_eq (tm_Mo_eventSlot zz) r 24 ls st h c n
theorem st_Mo_eventSlot_25 (zz : Nat × Nat) (r : mx_T) (ls : mx_L) (st : List Value) (h : mx_H) (c n : Nat) : mx_G r (t_Mo_eventSlot zz) 25 ls st h c n = (o_istore 1 3) r (mx_G r (t_Mo_eventSlot zz)) 25 ls st h c n := mx_G_eq (tm_Mo_eventSlot zz) r 25 ls st h c n
theorem st_Mo_eventSlot_26 (zz : Nat × Nat) (r : mx_T) (ls : mx_L) (st : List Value) (h : mx_H) (c n : Nat) : mx_G r (t_Mo_eventSlot zz) 26 ls st h c n = (o_push 1 (.int 3)) r (mx_G r (t_Mo_eventSlot zz)) 26 ls st h c n := mx_G_eq (tm_Mo_eventSlot zz) r 26 ls st h c n
theorem st_Mo_eventSlot_27 (zz : Nat × Nat) (r : mx_T) (ls : mx_L) (st : List Value) (h : mx_H) (c n : Nat) : mx_G r (t_Mo_eventSlot zz) 27 ls st h c n = (o_iload 1 1) r (mx_G r (t_Mo_eventSlot zz)) 27 ls st h c n := mx_G_eq (tm_Mo_eventSlot zz) r 27 ls st h c n
theorem st_Mo_eventSlot_28 (zz : Nat × Nat) (r : mx_T) (ls : mx_L) (st : List Value) (h : mx_H) (c n : Nat) : mx_G r (t_Mo_eventSlot zz) 28 ls st h c n = (o_ii (fun x y => x * y)) r (mx_G r (t_Mo_eventSlot zz)) 28 ls st h c n := mx_G_eq (tm_Mo_eventSlot zz) r 28 ls st h c n
theorem st_Mo_eventSlot_29 (zz : Nat × Nat) (r : mx_T) (ls : mx_L) (st : List Value) (h : mx_H) (c n : Nat) : mx_G r (t_Mo_eventSlot zz) 29 ls st h c n = (o_istore 2 4) r (mx_G r (t_Mo_eventSlot zz)) 29 ls st h c n := mx_G_eq (tm_Mo_eventSlot zz) r 29 ls st h c n
theorem st_Mo_eventSlot_31 (zz : Nat × Nat) (r : mx_T) (ls : mx_L) (st : List Value) (h : mx_H) (c n : Nat) : mx_G r (t_Mo_eventSlot zz) 31 ls st h c n = (o_iload 2 4) r (mx_G r (t_Mo_eventSlot zz)) 31 ls st h c n := mx_G_eq (tm_Mo_eventSlot zz) r 31 ls st h c n
theorem st_Mo_eventSlot_33 (zz : Nat × Nat) (r : mx_T) (ls : mx_L) (st : List Value) (h : mx_H) (c n : Nat) : mx_G r (t_Mo_eventSlot zz) 33 ls st h c n = (o_push 1 (.int 3)) r (mx_G r (t_Mo_eventSlot zz)) 33 ls st h c n := mx_G_eq (tm_Mo_eventSlot zz) r 33 ls st h c n
theorem st_Mo_eventSlot_34 (zz : Nat × Nat) (r : mx_T) (ls : mx_L) (st : List Value) (h : mx_H) (c n : Nat) : mx_G r (t_Mo_eventSlot zz) 34 ls st h c n = (o_iload 1 1) r (mx_G r (t_Mo_eventSlot zz)) 34 ls st h c n := mx_G_eq (tm_Mo_eventSlot zz) r 34 ls st h c n
theorem st_Mo_eventSlot_35 (zz : Nat × Nat) (r : mx_T) (ls : mx_L) (st : List Value) (h : mx_H) (c n : Nat) : mx_G r (t_Mo_eventSlot zz) 35 ls st h c n = (o_ii (fun x y => x * y)) r (mx_G r (t_Mo_eventSlot zz)) 35 ls st h c n := mx_G_eq (tm_Mo_eventSlot zz) r 35 ls st h c n
theorem st_Mo_eventSlot_36 (zz : Nat × Nat) (r : mx_T) (ls : mx_L) (st : List Value) (h : mx_H) (c n : Nat) : mx_G r (t_Mo_eventSlot zz) 36 ls st h c n = (o_push 1 (.int 3)) r (mx_G r (t_Mo_eventSlot zz)) 36 ls st h c n := mx_G_eq (tm_Mo_eventSlot zz) r 36 ls st h c n
theorem st_Mo_eventSlot_37 (zz : Nat × Nat) (r : mx_T) (ls : mx_L) (st : List Value) (h : mx_H) (c n : Nat) : mx_G r (t_Mo_eventSlot zz) 37 ls st h c n = (o_ii (fun x y => x + y)) r (mx_G r (t_Mo_eventSlot zz)) 37 ls st h c n := mx_G_eq (tm_Mo_eventSlot zz) r 37 ls st h c n
theorem st_Mo_eventSlot_38 (zz : Nat × Nat) (r : mx_T) (ls : mx_L) (st : List Value) (h : mx_H) (c n : Nat) : mx_G r (t_Mo_eventSlot zz) 38 ls st h c n = (o_icmp 93 (fun x y => y ≤ x)) r (mx_G r (t_Mo_eventSlot zz)) 38 ls st h c n := mx_G_eq (tm_Mo_eventSlot zz) r 38 ls st h c n
theorem st_Mo_eventSlot_41 (zz : Nat × Nat) (r : mx_T) (ls : mx_L) (st : List Value) (h : mx_H) (c n : Nat) : mx_G r (t_Mo_eventSlot zz) 41 ls st h c n = (o_aload 1 0) r (mx_G r (t_Mo_eventSlot zz)) 41 ls st h c n := mx_G_eq (tm_Mo_eventSlot zz) r 41 ls st h c n
theorem st_Mo_eventSlot_42 (zz : Nat × Nat) (r : mx_T) (ls : mx_L) (st : List Value) (h : mx_H) (c n : Nat) : mx_G r (t_Mo_eventSlot zz) 42 ls st h c n = (o_get 10 18) r (mx_G r (t_Mo_eventSlot zz)) 42 ls st h c n := mx_G_eq (tm_Mo_eventSlot zz) r 42 ls st h c n
theorem st_Mo_eventSlot_45 (zz : Nat × Nat) (r : mx_T) (ls : mx_L) (st : List Value) (h : mx_H) (c n : Nat) : mx_G r (t_Mo_eventSlot zz) 45 ls st h c n = (o_iload 2 4) r (mx_G r (t_Mo_eventSlot zz)) 45 ls st h c n := mx_G_eq (tm_Mo_eventSlot zz) r 45 ls st h c n
theorem st_Mo_eventSlot_47 (zz : Nat × Nat) (r : mx_T) (ls : mx_L) (st : List Value) (h : mx_H) (c n : Nat) : mx_G r (t_Mo_eventSlot zz) 47 ls st h c n = (o_iald .int) r (mx_G r (t_Mo_eventSlot zz)) 47 ls st h c n := mx_G_eq (tm_Mo_eventSlot zz) r 47 ls st h c n
theorem st_Mo_eventSlot_48 (zz : Nat × Nat) (r : mx_T) (ls : mx_L) (st : List Value) (h : mx_H) (c n : Nat) : mx_G r (t_Mo_eventSlot zz) 48 ls st h c n = (o_push 1 (.int (-1))) r (mx_G r (t_Mo_eventSlot zz)) 48 ls st h c n := mx_G_eq (tm_Mo_eventSlot zz) r 48 ls st h c n
theorem st_Mo_eventSlot_49 (zz : Nat × Nat) (r : mx_T) (ls : mx_L) (st : List Value) (h : mx_H) (c n : Nat) : mx_G r (t_Mo_eventSlot zz) 49 ls st h c n = (o_icmp 87 (fun x y => x = y)) r (mx_G r (t_Mo_eventSlot zz)) 49 ls st h c n := mx_G_eq (tm_Mo_eventSlot zz) r 49 ls st h c n
theorem st_Mo_eventSlot_52 (zz : Nat × Nat) (r : mx_T) (ls : mx_L) (st : List Value) (h : mx_H) (c n : Nat) : mx_G r (t_Mo_eventSlot zz) 52 ls st h c n = (o_aload 1 0) r (mx_G r (t_Mo_eventSlot zz)) 52 ls st h c n := mx_G_eq (tm_Mo_eventSlot zz) r 52 ls st h c n
theorem st_Mo_eventSlot_53 (zz : Nat × Nat) (r : mx_T) (ls : mx_L) (st : List Value) (h : mx_H) (c n : Nat) : mx_G r (t_Mo_eventSlot zz) 53 ls st h c n = (o_get 10 5) r (mx_G r (t_Mo_eventSlot zz)) 53 ls st h c n := mx_G_eq (tm_Mo_eventSlot zz) r 53 ls st h c n
theorem st_Mo_eventSlot_56 (zz : Nat × Nat) (r : mx_T) (ls : mx_L) (st : List Value) (h : mx_H) (c n : Nat) : mx_G r (t_Mo_eventSlot zz) 56 ls st h c n = (o_aload 1 0) r (mx_G r (t_Mo_eventSlot zz)) 56 ls st h c n := mx_G_eq (tm_Mo_eventSlot zz) r 56 ls st h c n
theorem st_Mo_eventSlot_57 (zz : Nat × Nat) (r : mx_T) (ls : mx_L) (st : List Value) (h : mx_H) (c n : Nat) : mx_G r (t_Mo_eventSlot zz) 57 ls st h c n = (o_get 10 18) r (mx_G r (t_Mo_eventSlot zz)) 57 ls st h c n := mx_G_eq (tm_Mo_eventSlot zz) r 57 ls st h c n
theorem st_Mo_eventSlot_60 (zz : Nat × Nat) (r : mx_T) (ls : mx_L) (st : List Value) (h : mx_H) (c n : Nat) : mx_G r (t_Mo_eventSlot zz) 60 ls st h c n = (o_iload 2 4) r (mx_G r (t_Mo_eventSlot zz)) 60 ls st h c n := mx_G_eq (tm_Mo_eventSlot zz) r 60 ls st h c n
theorem st_Mo_eventSlot_62 (zz : Nat × Nat) (r : mx_T) (ls : mx_L) (st : List Value) (h : mx_H) (c n : Nat) : mx_G r (t_Mo_eventSlot zz) 62 ls st h c n = (o_iald .int) r (mx_G r (t_Mo_eventSlot zz)) 62 ls st h c n := mx_G_eq (tm_Mo_eventSlot zz) r 62 ls st h c n
theorem st_Mo_eventSlot_63 (zz : Nat × Nat) (r : mx_T) (ls : mx_L) (st : List Value) (h : mx_H) (c n : Nat) : mx_G r (t_Mo_eventSlot zz) 63 ls st h c n = (o_iald .boolean) r (mx_G r (t_Mo_eventSlot zz)) 63 ls st h c n := mx_G_eq (tm_Mo_eventSlot zz) r 63 ls st h c n
theorem st_Mo_eventSlot_64 (zz : Nat × Nat) (r : mx_T) (ls : mx_L) (st : List Value) (h : mx_H) (c n : Nat) : mx_G r (t_Mo_eventSlot zz) 64 ls st h c n = (o_if 87 (fun x => x = 0)) r (mx_G r (t_Mo_eventSlot zz)) 64 ls st h c n := mx_G_eq (tm_Mo_eventSlot zz) r 64 ls st h c n
theorem st_Mo_eventSlot_67 (zz : Nat × Nat) (r : mx_T) (ls : mx_L) (st : List Value) (h : mx_H) (c n : Nat) : mx_G r (t_Mo_eventSlot zz) 67 ls st h c n = (o_push 1 (.int 1)) r (mx_G r (t_Mo_eventSlot zz)) 67 ls st h c n := mx_G_eq (tm_Mo_eventSlot zz) r 67 ls st h c n
theorem st_Mo_eventSlot_68 (zz : Nat × Nat) (r : mx_T) (ls : mx_L) (st : List Value) (h : mx_H) (c n : Nat) : mx_G r (t_Mo_eventSlot zz) 68 ls st h c n = (o_istore 1 3) r (mx_G r (t_Mo_eventSlot zz)) 68 ls st h c n := mx_G_eq (tm_Mo_eventSlot zz) r 68 ls st h c n
theorem st_Mo_eventSlot_69 (zz : Nat × Nat) (r : mx_T) (ls : mx_L) (st : List Value) (h : mx_H) (c n : Nat) : mx_G r (t_Mo_eventSlot zz) 69 ls st h c n = (o_iload 1 2) r (mx_G r (t_Mo_eventSlot zz)) 69 ls st h c n := mx_G_eq (tm_Mo_eventSlot zz) r 69 ls st h c n
theorem st_Mo_eventSlot_70 (zz : Nat × Nat) (r : mx_T) (ls : mx_L) (st : List Value) (h : mx_H) (c n : Nat) : mx_G r (t_Mo_eventSlot zz) 70 ls st h c n = (o_aload 1 0) r (mx_G r (t_Mo_eventSlot zz)) 70 ls st h c n := mx_G_eq (tm_Mo_eventSlot zz) r 70 ls st h c n
theorem st_Mo_eventSlot_71 (zz : Nat × Nat) (r : mx_T) (ls : mx_L) (st : List Value) (h : mx_H) (c n : Nat) : mx_G r (t_Mo_eventSlot zz) 71 ls st h c n = (o_get 10 1) r (mx_G r (t_Mo_eventSlot zz)) 71 ls st h c n := mx_G_eq (tm_Mo_eventSlot zz) r 71 ls st h c n
theorem st_Mo_eventSlot_74 (zz : Nat × Nat) (r : mx_T) (ls : mx_L) (st : List Value) (h : mx_H) (c n : Nat) : mx_G r (t_Mo_eventSlot zz) 74 ls st h c n = (o_aload 1 0) r (mx_G r (t_Mo_eventSlot zz)) 74 ls st h c n := mx_G_eq (tm_Mo_eventSlot zz) r 74 ls st h c n
theorem st_Mo_eventSlot_75 (zz : Nat × Nat) (r : mx_T) (ls : mx_L) (st : List Value) (h : mx_H) (c n : Nat) : mx_G r (t_Mo_eventSlot zz) 75 ls st h c n = (o_get 10 18) r (mx_G r (t_Mo_eventSlot zz)) 75 ls st h c n := mx_G_eq (tm_Mo_eventSlot zz) r 75 ls st h c n
theorem st_Mo_eventSlot_78 (zz : Nat × Nat) (r : mx_T) (ls : mx_L) (st : List Value) (h : mx_H) (c n : Nat) : mx_G r (t_Mo_eventSlot zz) 78 ls st h c n = (o_iload 2 4) r (mx_G r (t_Mo_eventSlot zz)) 78 ls st h c n := mx_G_eq (tm_Mo_eventSlot zz) r 78 ls st h c n
theorem st_Mo_eventSlot_80 (zz : Nat × Nat) (r : mx_T) (ls : mx_L) (st : List Value) (h : mx_H) (c n : Nat) : mx_G r (t_Mo_eventSlot zz) 80 ls st h c n = (o_iald .int) r (mx_G r (t_Mo_eventSlot zz)) 80 ls st h c n := mx_G_eq (tm_Mo_eventSlot zz) r 80 ls st h c n
theorem st_Mo_eventSlot_81 (zz : Nat × Nat) (r : mx_T) (ls : mx_L) (st : List Value) (h : mx_H) (c n : Nat) : mx_G r (t_Mo_eventSlot zz) 81 ls st h c n = (o_iald .int) r (mx_G r (t_Mo_eventSlot zz)) 81 ls st h c n := mx_G_eq (tm_Mo_eventSlot zz) r 81 ls st h c n
theorem st_Mo_eventSlot_82 (zz : Nat × Nat) (r : mx_T) (ls : mx_L) (st : List Value) (h : mx_H) (c n : Nat) : mx_G r (t_Mo_eventSlot zz) 82 ls st h c n = (o_call 0 0 1 0 0 (fun _ _ => True) (S_Mo_guarded zz)) r (mx_G r (t_Mo_eventSlot zz)) 82 ls st h c n := mx_G_eq (tm_Mo_eventSlot zz) r 82 ls st h c n
theorem st_Mo_eventSlot_85 (zz : Nat × Nat) (r : mx_T) (ls : mx_L) (st : List Value) (h : mx_H) (c n : Nat) : mx_G r (t_Mo_eventSlot zz) 85 ls st h c n = (o_ii (fun x y => x &&& y)) r (mx_G r (t_Mo_eventSlot zz)) 85 ls st h c n := mx_G_eq (tm_Mo_eventSlot zz) r 85 ls st h c n
theorem st_Mo_eventSlot_86 (zz : Nat × Nat) (r : mx_T) (ls : mx_L) (st : List Value) (h : mx_H) (c n : Nat) : mx_G r (t_Mo_eventSlot zz) 86 ls st h c n = (o_istore 1 2) r (mx_G r (t_Mo_eventSlot zz)) 86 ls st h c n := mx_G_eq (tm_Mo_eventSlot zz) r 86 ls st h c n
theorem st_Mo_eventSlot_87 (zz : Nat × Nat) (r : mx_T) (ls : mx_L) (st : List Value) (h : mx_H) (c n : Nat) : mx_G r (t_Mo_eventSlot zz) 87 ls st h c n = (o_iinc 4 1) r (mx_G r (t_Mo_eventSlot zz)) 87 ls st h c n := mx_G_eq (tm_Mo_eventSlot zz) r 87 ls st h c n
theorem st_Mo_eventSlot_90 (zz : Nat × Nat) (r : mx_T) (ls : mx_L) (st : List Value) (h : mx_H) (c n : Nat) : mx_G r (t_Mo_eventSlot zz) 90 ls st h c n = (o_goto 31) r (mx_G r (t_Mo_eventSlot zz)) 90 ls st h c n := mx_G_eq (tm_Mo_eventSlot zz) r 90 ls st h c n
theorem st_Mo_eventSlot_93 (zz : Nat × Nat) (r : mx_T) (ls : mx_L) (st : List Value) (h : mx_H) (c n : Nat) : mx_G r (t_Mo_eventSlot zz) 93 ls st h c n = (o_iload 1 3) r (mx_G r (t_Mo_eventSlot zz)) 93 ls st h c n := mx_G_eq (tm_Mo_eventSlot zz) r 93 ls st h c n
theorem st_Mo_eventSlot_94 (zz : Nat × Nat) (r : mx_T) (ls : mx_L) (st : List Value) (h : mx_H) (c n : Nat) : mx_G r (t_Mo_eventSlot zz) 94 ls st h c n = (o_if 99 (fun x => ¬ x = 0)) r (mx_G r (t_Mo_eventSlot zz)) 94 ls st h c n := mx_G_eq (tm_Mo_eventSlot zz) r 94 ls st h c n
theorem st_Mo_eventSlot_97 (zz : Nat × Nat) (r : mx_T) (ls : mx_L) (st : List Value) (h : mx_H) (c n : Nat) : mx_G r (t_Mo_eventSlot zz) 97 ls st h c n = (o_push 1 (.int 2)) r (mx_G r (t_Mo_eventSlot zz)) 97 ls st h c n := mx_G_eq (tm_Mo_eventSlot zz) r 97 ls st h c n
theorem st_Mo_eventSlot_98 (zz : Nat × Nat) (r : mx_T) (ls : mx_L) (st : List Value) (h : mx_H) (c n : Nat) : mx_G r (t_Mo_eventSlot zz) 98 ls st h c n = (o_iret) r (mx_G r (t_Mo_eventSlot zz)) 98 ls st h c n := mx_G_eq (tm_Mo_eventSlot zz) r 98 ls st h c n
theorem st_Mo_eventSlot_99 (zz : Nat × Nat) (r : mx_T) (ls : mx_L) (st : List Value) (h : mx_H) (c n : Nat) : mx_G r (t_Mo_eventSlot zz) 99 ls st h c n = (o_push 1 (.int (-1))) r (mx_G r (t_Mo_eventSlot zz)) 99 ls st h c n := mx_G_eq (tm_Mo_eventSlot zz) r 99 ls st h c n
theorem st_Mo_eventSlot_100 (zz : Nat × Nat) (r : mx_T) (ls : mx_L) (st : List Value) (h : mx_H) (c n : Nat) : mx_G r (t_Mo_eventSlot zz) 100 ls st h c n = (o_istore 2 4) r (mx_G r (t_Mo_eventSlot zz)) 100 ls st h c n := mx_G_eq (tm_Mo_eventSlot zz) r 100 ls st h c n
theorem st_Mo_eventSlot_102 (zz : Nat × Nat) (r : mx_T) (ls : mx_L) (st : List Value) (h : mx_H) (c n : Nat) : mx_G r (t_Mo_eventSlot zz) 102 ls st h c n = (o_push 1 (.int 3)) r (mx_G r (t_Mo_eventSlot zz)) 102 ls st h c n := mx_G_eq (tm_Mo_eventSlot zz) r 102 ls st h c n
theorem st_Mo_eventSlot_103 (zz : Nat × Nat) (r : mx_T) (ls : mx_L) (st : List Value) (h : mx_H) (c n : Nat) : mx_G r (t_Mo_eventSlot zz) 103 ls st h c n = (o_iload 1 1) r (mx_G r (t_Mo_eventSlot zz)) 103 ls st h c n := mx_G_eq (tm_Mo_eventSlot zz) r 103 ls st h c n
theorem st_Mo_eventSlot_104 (zz : Nat × Nat) (r : mx_T) (ls : mx_L) (st : List Value) (h : mx_H) (c n : Nat) : mx_G r (t_Mo_eventSlot zz) 104 ls st h c n = (o_ii (fun x y => x * y)) r (mx_G r (t_Mo_eventSlot zz)) 104 ls st h c n := mx_G_eq (tm_Mo_eventSlot zz) r 104 ls st h c n
theorem st_Mo_eventSlot_105 (zz : Nat × Nat) (r : mx_T) (ls : mx_L) (st : List Value) (h : mx_H) (c n : Nat) : mx_G r (t_Mo_eventSlot zz) 105 ls st h c n = (o_istore 2 5) r (mx_G r (t_Mo_eventSlot zz)) 105 ls st h c n := mx_G_eq (tm_Mo_eventSlot zz) r 105 ls st h c n
theorem st_Mo_eventSlot_107 (zz : Nat × Nat) (r : mx_T) (ls : mx_L) (st : List Value) (h : mx_H) (c n : Nat) : mx_G r (t_Mo_eventSlot zz) 107 ls st h c n = (o_iload 2 5) r (mx_G r (t_Mo_eventSlot zz)) 107 ls st h c n := mx_G_eq (tm_Mo_eventSlot zz) r 107 ls st h c n
theorem st_Mo_eventSlot_109 (zz : Nat × Nat) (r : mx_T) (ls : mx_L) (st : List Value) (h : mx_H) (c n : Nat) : mx_G r (t_Mo_eventSlot zz) 109 ls st h c n = (o_push 1 (.int 3)) r (mx_G r (t_Mo_eventSlot zz)) 109 ls st h c n := mx_G_eq (tm_Mo_eventSlot zz) r 109 ls st h c n
theorem st_Mo_eventSlot_110 (zz : Nat × Nat) (r : mx_T) (ls : mx_L) (st : List Value) (h : mx_H) (c n : Nat) : mx_G r (t_Mo_eventSlot zz) 110 ls st h c n = (o_iload 1 1) r (mx_G r (t_Mo_eventSlot zz)) 110 ls st h c n := mx_G_eq (tm_Mo_eventSlot zz) r 110 ls st h c n
theorem st_Mo_eventSlot_111 (zz : Nat × Nat) (r : mx_T) (ls : mx_L) (st : List Value) (h : mx_H) (c n : Nat) : mx_G r (t_Mo_eventSlot zz) 111 ls st h c n = (o_ii (fun x y => x * y)) r (mx_G r (t_Mo_eventSlot zz)) 111 ls st h c n := mx_G_eq (tm_Mo_eventSlot zz) r 111 ls st h c n
theorem st_Mo_eventSlot_112 (zz : Nat × Nat) (r : mx_T) (ls : mx_L) (st : List Value) (h : mx_H) (c n : Nat) : mx_G r (t_Mo_eventSlot zz) 112 ls st h c n = (o_push 1 (.int 3)) r (mx_G r (t_Mo_eventSlot zz)) 112 ls st h c n := mx_G_eq (tm_Mo_eventSlot zz) r 112 ls st h c n
theorem st_Mo_eventSlot_113 (zz : Nat × Nat) (r : mx_T) (ls : mx_L) (st : List Value) (h : mx_H) (c n : Nat) : mx_G r (t_Mo_eventSlot zz) 113 ls st h c n = (o_ii (fun x y => x + y)) r (mx_G r (t_Mo_eventSlot zz)) 113 ls st h c n := mx_G_eq (tm_Mo_eventSlot zz) r 113 ls st h c n
theorem st_Mo_eventSlot_114 (zz : Nat × Nat) (r : mx_T) (ls : mx_L) (st : List Value) (h : mx_H) (c n : Nat) : mx_G r (t_Mo_eventSlot zz) 114 ls st h c n = (o_icmp 177 (fun x y => y ≤ x)) r (mx_G r (t_Mo_eventSlot zz)) 114 ls st h c n := mx_G_eq (tm_Mo_eventSlot zz) r 114 ls st h c n
theorem st_Mo_eventSlot_117 (zz : Nat × Nat) (r : mx_T) (ls : mx_L) (st : List Value) (h : mx_H) (c n : Nat) : mx_G r (t_Mo_eventSlot zz) 117 ls st h c n = (o_aload 1 0) r (mx_G r (t_Mo_eventSlot zz)) 117 ls st h c n := mx_G_eq (tm_Mo_eventSlot zz) r 117 ls st h c n
theorem st_Mo_eventSlot_118 (zz : Nat × Nat) (r : mx_T) (ls : mx_L) (st : List Value) (h : mx_H) (c n : Nat) : mx_G r (t_Mo_eventSlot zz) 118 ls st h c n = (o_get 10 18) r (mx_G r (t_Mo_eventSlot zz)) 118 ls st h c n := mx_G_eq (tm_Mo_eventSlot zz) r 118 ls st h c n
theorem st_Mo_eventSlot_121 (zz : Nat × Nat) (r : mx_T) (ls : mx_L) (st : List Value) (h : mx_H) (c n : Nat) : mx_G r (t_Mo_eventSlot zz) 121 ls st h c n = (o_iload 2 5) r (mx_G r (t_Mo_eventSlot zz)) 121 ls st h c n := mx_G_eq (tm_Mo_eventSlot zz) r 121 ls st h c n
theorem st_Mo_eventSlot_123 (zz : Nat × Nat) (r : mx_T) (ls : mx_L) (st : List Value) (h : mx_H) (c n : Nat) : mx_G r (t_Mo_eventSlot zz) 123 ls st h c n = (o_iald .int) r (mx_G r (t_Mo_eventSlot zz)) 123 ls st h c n := mx_G_eq (tm_Mo_eventSlot zz) r 123 ls st h c n
theorem st_Mo_eventSlot_124 (zz : Nat × Nat) (r : mx_T) (ls : mx_L) (st : List Value) (h : mx_H) (c n : Nat) : mx_G r (t_Mo_eventSlot zz) 124 ls st h c n = (o_push 1 (.int (-1))) r (mx_G r (t_Mo_eventSlot zz)) 124 ls st h c n := mx_G_eq (tm_Mo_eventSlot zz) r 124 ls st h c n
theorem st_Mo_eventSlot_125 (zz : Nat × Nat) (r : mx_T) (ls : mx_L) (st : List Value) (h : mx_H) (c n : Nat) : mx_G r (t_Mo_eventSlot zz) 125 ls st h c n = (o_icmp 171 (fun x y => x = y)) r (mx_G r (t_Mo_eventSlot zz)) 125 ls st h c n := mx_G_eq (tm_Mo_eventSlot zz) r 125 ls st h c n
theorem st_Mo_eventSlot_128 (zz : Nat × Nat) (r : mx_T) (ls : mx_L) (st : List Value) (h : mx_H) (c n : Nat) : mx_G r (t_Mo_eventSlot zz) 128 ls st h c n = (o_aload 1 0) r (mx_G r (t_Mo_eventSlot zz)) 128 ls st h c n := mx_G_eq (tm_Mo_eventSlot zz) r 128 ls st h c n
theorem st_Mo_eventSlot_129 (zz : Nat × Nat) (r : mx_T) (ls : mx_L) (st : List Value) (h : mx_H) (c n : Nat) : mx_G r (t_Mo_eventSlot zz) 129 ls st h c n = (o_get 10 5) r (mx_G r (t_Mo_eventSlot zz)) 129 ls st h c n := mx_G_eq (tm_Mo_eventSlot zz) r 129 ls st h c n
theorem st_Mo_eventSlot_132 (zz : Nat × Nat) (r : mx_T) (ls : mx_L) (st : List Value) (h : mx_H) (c n : Nat) : mx_G r (t_Mo_eventSlot zz) 132 ls st h c n = (o_aload 1 0) r (mx_G r (t_Mo_eventSlot zz)) 132 ls st h c n := mx_G_eq (tm_Mo_eventSlot zz) r 132 ls st h c n
theorem st_Mo_eventSlot_133 (zz : Nat × Nat) (r : mx_T) (ls : mx_L) (st : List Value) (h : mx_H) (c n : Nat) : mx_G r (t_Mo_eventSlot zz) 133 ls st h c n = (o_get 10 18) r (mx_G r (t_Mo_eventSlot zz)) 133 ls st h c n := mx_G_eq (tm_Mo_eventSlot zz) r 133 ls st h c n
theorem st_Mo_eventSlot_136 (zz : Nat × Nat) (r : mx_T) (ls : mx_L) (st : List Value) (h : mx_H) (c n : Nat) : mx_G r (t_Mo_eventSlot zz) 136 ls st h c n = (o_iload 2 5) r (mx_G r (t_Mo_eventSlot zz)) 136 ls st h c n := mx_G_eq (tm_Mo_eventSlot zz) r 136 ls st h c n
theorem st_Mo_eventSlot_138 (zz : Nat × Nat) (r : mx_T) (ls : mx_L) (st : List Value) (h : mx_H) (c n : Nat) : mx_G r (t_Mo_eventSlot zz) 138 ls st h c n = (o_iald .int) r (mx_G r (t_Mo_eventSlot zz)) 138 ls st h c n := mx_G_eq (tm_Mo_eventSlot zz) r 138 ls st h c n
theorem st_Mo_eventSlot_139 (zz : Nat × Nat) (r : mx_T) (ls : mx_L) (st : List Value) (h : mx_H) (c n : Nat) : mx_G r (t_Mo_eventSlot zz) 139 ls st h c n = (o_iald .boolean) r (mx_G r (t_Mo_eventSlot zz)) 139 ls st h c n := mx_G_eq (tm_Mo_eventSlot zz) r 139 ls st h c n
theorem st_Mo_eventSlot_140 (zz : Nat × Nat) (r : mx_T) (ls : mx_L) (st : List Value) (h : mx_H) (c n : Nat) : mx_G r (t_Mo_eventSlot zz) 140 ls st h c n = (o_if 171 (fun x => x = 0)) r (mx_G r (t_Mo_eventSlot zz)) 140 ls st h c n := mx_G_eq (tm_Mo_eventSlot zz) r 140 ls st h c n
theorem st_Mo_eventSlot_143 (zz : Nat × Nat) (r : mx_T) (ls : mx_L) (st : List Value) (h : mx_H) (c n : Nat) : mx_G r (t_Mo_eventSlot zz) 143 ls st h c n = (o_aload 1 0) r (mx_G r (t_Mo_eventSlot zz)) 143 ls st h c n := mx_G_eq (tm_Mo_eventSlot zz) r 143 ls st h c n
theorem st_Mo_eventSlot_144 (zz : Nat × Nat) (r : mx_T) (ls : mx_L) (st : List Value) (h : mx_H) (c n : Nat) : mx_G r (t_Mo_eventSlot zz) 144 ls st h c n = (o_get 10 1) r (mx_G r (t_Mo_eventSlot zz)) 144 ls st h c n := mx_G_eq (tm_Mo_eventSlot zz) r 144 ls st h c n
theorem st_Mo_eventSlot_147 (zz : Nat × Nat) (r : mx_T) (ls : mx_L) (st : List Value) (h : mx_H) (c n : Nat) : mx_G r (t_Mo_eventSlot zz) 147 ls st h c n = (o_aload 1 0) r (mx_G r (t_Mo_eventSlot zz)) 147 ls st h c n := mx_G_eq (tm_Mo_eventSlot zz) r 147 ls st h c n
theorem st_Mo_eventSlot_148 (zz : Nat × Nat) (r : mx_T) (ls : mx_L) (st : List Value) (h : mx_H) (c n : Nat) : mx_G r (t_Mo_eventSlot zz) 148 ls st h c n = (o_get 10 18) r (mx_G r (t_Mo_eventSlot zz)) 148 ls st h c n := mx_G_eq (tm_Mo_eventSlot zz) r 148 ls st h c n
set_option maxRecDepth 20000 in
theorem st_Mo_eventSlot_151 (zz : Nat × Nat) (r : mx_T) (ls : mx_L) (st : List Value) (h : mx_H) (c n : Nat) : mx_G r (t_Mo_eventSlot zz) 151 ls st h c n = (o_iload 2 5) r (mx_G r (t_Mo_eventSlot zz)) 151 ls st h c n := mx_G_eq (tm_Mo_eventSlot zz) r 151 ls st h c n
set_option maxRecDepth 20000 in
theorem st_Mo_eventSlot_153 (zz : Nat × Nat) (r : mx_T) (ls : mx_L) (st : List Value) (h : mx_H) (c n : Nat) : mx_G r (t_Mo_eventSlot zz) 153 ls st h c n = (o_iald .int) r (mx_G r (t_Mo_eventSlot zz)) 153 ls st h c n := mx_G_eq (tm_Mo_eventSlot zz) r 153 ls st h c n
set_option maxRecDepth 20000 in
theorem st_Mo_eventSlot_154 (zz : Nat × Nat) (r : mx_T) (ls : mx_L) (st : List Value) (h : mx_H) (c n : Nat) : mx_G r (t_Mo_eventSlot zz) 154 ls st h c n = (o_iald .int) r (mx_G r (t_Mo_eventSlot zz)) 154 ls st h c n := mx_G_eq (tm_Mo_eventSlot zz) r 154 ls st h c n
set_option maxRecDepth 20000 in
theorem st_Mo_eventSlot_155 (zz : Nat × Nat) (r : mx_T) (ls : mx_L) (st : List Value) (h : mx_H) (c n : Nat) : mx_G r (t_Mo_eventSlot zz) 155 ls st h c n = (o_call 0 0 1 0 0 (fun _ _ => True) (S_Mo_guarded zz)) r (mx_G r (t_Mo_eventSlot zz)) 155 ls st h c n := mx_G_eq (tm_Mo_eventSlot zz) r 155 ls st h c n
set_option maxRecDepth 20000 in
theorem st_Mo_eventSlot_158 (zz : Nat × Nat) (r : mx_T) (ls : mx_L) (st : List Value) (h : mx_H) (c n : Nat) : mx_G r (t_Mo_eventSlot zz) 158 ls st h c n = (o_iload 1 2) r (mx_G r (t_Mo_eventSlot zz)) 158 ls st h c n := mx_G_eq (tm_Mo_eventSlot zz) r 158 ls st h c n
set_option maxRecDepth 20000 in
theorem st_Mo_eventSlot_159 (zz : Nat × Nat) (r : mx_T) (ls : mx_L) (st : List Value) (h : mx_H) (c n : Nat) : mx_G r (t_Mo_eventSlot zz) 159 ls st h c n = (o_icmp 171 (fun x y => ¬ x = y)) r (mx_G r (t_Mo_eventSlot zz)) 159 ls st h c n := mx_G_eq (tm_Mo_eventSlot zz) r 159 ls st h c n
set_option maxRecDepth 20000 in
theorem st_Mo_eventSlot_162 (zz : Nat × Nat) (r : mx_T) (ls : mx_L) (st : List Value) (h : mx_H) (c n : Nat) : mx_G r (t_Mo_eventSlot zz) 162 ls st h c n = (o_aload 1 0) r (mx_G r (t_Mo_eventSlot zz)) 162 ls st h c n := mx_G_eq (tm_Mo_eventSlot zz) r 162 ls st h c n
set_option maxRecDepth 20000 in
theorem st_Mo_eventSlot_163 (zz : Nat × Nat) (r : mx_T) (ls : mx_L) (st : List Value) (h : mx_H) (c n : Nat) : mx_G r (t_Mo_eventSlot zz) 163 ls st h c n = (o_get 10 18) r (mx_G r (t_Mo_eventSlot zz)) 163 ls st h c n := mx_G_eq (tm_Mo_eventSlot zz) r 163 ls st h c n
set_option maxRecDepth 20000 in
theorem st_Mo_eventSlot_166 (zz : Nat × Nat) (r : mx_T) (ls : mx_L) (st : List Value) (h : mx_H) (c n : Nat) : mx_G r (t_Mo_eventSlot zz) 166 ls st h c n = (o_iload 2 5) r (mx_G r (t_Mo_eventSlot zz)) 166 ls st h c n := mx_G_eq (tm_Mo_eventSlot zz) r 166 ls st h c n
set_option maxRecDepth 20000 in
theorem st_Mo_eventSlot_168 (zz : Nat × Nat) (r : mx_T) (ls : mx_L) (st : List Value) (h : mx_H) (c n : Nat) : mx_G r (t_Mo_eventSlot zz) 168 ls st h c n = (o_iald .int) r (mx_G r (t_Mo_eventSlot zz)) 168 ls st h c n := mx_G_eq (tm_Mo_eventSlot zz) r 168 ls st h c n
set_option maxRecDepth 20000 in
theorem st_Mo_eventSlot_169 (zz : Nat × Nat) (r : mx_T) (ls : mx_L) (st : List Value) (h : mx_H) (c n : Nat) : mx_G r (t_Mo_eventSlot zz) 169 ls st h c n = (o_istore 2 4) r (mx_G r (t_Mo_eventSlot zz)) 169 ls st h c n := mx_G_eq (tm_Mo_eventSlot zz) r 169 ls st h c n
set_option maxRecDepth 20000 in
theorem st_Mo_eventSlot_171 (zz : Nat × Nat) (r : mx_T) (ls : mx_L) (st : List Value) (h : mx_H) (c n : Nat) : mx_G r (t_Mo_eventSlot zz) 171 ls st h c n = (o_iinc 5 1) r (mx_G r (t_Mo_eventSlot zz)) 171 ls st h c n := mx_G_eq (tm_Mo_eventSlot zz) r 171 ls st h c n
set_option maxRecDepth 20000 in
theorem st_Mo_eventSlot_174 (zz : Nat × Nat) (r : mx_T) (ls : mx_L) (st : List Value) (h : mx_H) (c n : Nat) : mx_G r (t_Mo_eventSlot zz) 174 ls st h c n = (o_goto 107) r (mx_G r (t_Mo_eventSlot zz)) 174 ls st h c n := mx_G_eq (tm_Mo_eventSlot zz) r 174 ls st h c n
set_option maxRecDepth 20000 in
theorem st_Mo_eventSlot_177 (zz : Nat × Nat) (r : mx_T) (ls : mx_L) (st : List Value) (h : mx_H) (c n : Nat) : mx_G r (t_Mo_eventSlot zz) 177 ls st h c n = (o_iload 2 4) r (mx_G r (t_Mo_eventSlot zz)) 177 ls st h c n := mx_G_eq (tm_Mo_eventSlot zz) r 177 ls st h c n
set_option maxRecDepth 20000 in
theorem st_Mo_eventSlot_179 (zz : Nat × Nat) (r : mx_T) (ls : mx_L) (st : List Value) (h : mx_H) (c n : Nat) : mx_G r (t_Mo_eventSlot zz) 179 ls st h c n = (o_if 191 (fun x => x < 0)) r (mx_G r (t_Mo_eventSlot zz)) 179 ls st h c n := mx_G_eq (tm_Mo_eventSlot zz) r 179 ls st h c n
set_option maxRecDepth 20000 in
theorem st_Mo_eventSlot_182 (zz : Nat × Nat) (r : mx_T) (ls : mx_L) (st : List Value) (h : mx_H) (c n : Nat) : mx_G r (t_Mo_eventSlot zz) 182 ls st h c n = (o_aload 1 0) r (mx_G r (t_Mo_eventSlot zz)) 182 ls st h c n := mx_G_eq (tm_Mo_eventSlot zz) r 182 ls st h c n
set_option maxRecDepth 20000 in
theorem st_Mo_eventSlot_183 (zz : Nat × Nat) (r : mx_T) (ls : mx_L) (st : List Value) (h : mx_H) (c n : Nat) : mx_G r (t_Mo_eventSlot zz) 183 ls st h c n = (o_iload 2 4) r (mx_G r (t_Mo_eventSlot zz)) 183 ls st h c n := mx_G_eq (tm_Mo_eventSlot zz) r 183 ls st h c n
set_option maxRecDepth 20000 in
theorem st_Mo_eventSlot_185 (zz : Nat × Nat) (r : mx_T) (ls : mx_L) (st : List Value) (h : mx_H) (c n : Nat) : mx_G r (t_Mo_eventSlot zz) 185 ls st h c n = (o_call 0 0 2 0 0 (mx_rv 10) (S_Mo_respond zz)) r (mx_G r (t_Mo_eventSlot zz)) 185 ls st h c n := mx_G_eq (tm_Mo_eventSlot zz) r 185 ls st h c n
set_option maxRecDepth 20000 in
theorem st_Mo_eventSlot_188 (zz : Nat × Nat) (r : mx_T) (ls : mx_L) (st : List Value) (h : mx_H) (c n : Nat) : mx_G r (t_Mo_eventSlot zz) 188 ls st h c n = (o_goto 203) r (mx_G r (t_Mo_eventSlot zz)) 188 ls st h c n := mx_G_eq (tm_Mo_eventSlot zz) r 188 ls st h c n
set_option maxRecDepth 20000 in
theorem st_Mo_eventSlot_191 (zz : Nat × Nat) (r : mx_T) (ls : mx_L) (st : List Value) (h : mx_H) (c n : Nat) : mx_G r (t_Mo_eventSlot zz) 191 ls st h c n = (o_aload 1 0) r (mx_G r (t_Mo_eventSlot zz)) 191 ls st h c n := mx_G_eq (tm_Mo_eventSlot zz) r 191 ls st h c n
set_option maxRecDepth 20000 in
theorem st_Mo_eventSlot_192 (zz : Nat × Nat) (r : mx_T) (ls : mx_L) (st : List Value) (h : mx_H) (c n : Nat) : mx_G r (t_Mo_eventSlot zz) 192 ls st h c n = (o_get 10 35) r (mx_G r (t_Mo_eventSlot zz)) 192 ls st h c n := mx_G_eq (tm_Mo_eventSlot zz) r 192 ls st h c n
set_option maxRecDepth 20000 in
theorem st_Mo_eventSlot_195 (zz : Nat × Nat) (r : mx_T) (ls : mx_L) (st : List Value) (h : mx_H) (c n : Nat) : mx_G r (t_Mo_eventSlot zz) 195 ls st h c n = (o_push 1 (.int 1)) r (mx_G r (t_Mo_eventSlot zz)) 195 ls st h c n := mx_G_eq (tm_Mo_eventSlot zz) r 195 ls st h c n
set_option maxRecDepth 20000 in
theorem st_Mo_eventSlot_196 (zz : Nat × Nat) (r : mx_T) (ls : mx_L) (st : List Value) (h : mx_H) (c n : Nat) : mx_G r (t_Mo_eventSlot zz) 196 ls st h c n = (o_iload 1 2) r (mx_G r (t_Mo_eventSlot zz)) 196 ls st h c n := mx_G_eq (tm_Mo_eventSlot zz) r 196 ls st h c n
set_option maxRecDepth 20000 in
theorem st_Mo_eventSlot_197 (zz : Nat × Nat) (r : mx_T) (ls : mx_L) (st : List Value) (h : mx_H) (c n : Nat) : mx_G r (t_Mo_eventSlot zz) 197 ls st h c n = (o_iast .int (fun x => x)) r (mx_G r (t_Mo_eventSlot zz)) 197 ls st h c n := mx_G_eq (tm_Mo_eventSlot zz) r 197 ls st h c n
set_option maxRecDepth 20000 in
theorem st_Mo_eventSlot_198 (zz : Nat × Nat) (r : mx_T) (ls : mx_L) (st : List Value) (h : mx_H) (c n : Nat) : mx_G r (t_Mo_eventSlot zz) 198 ls st h c n = (o_aload 1 0) r (mx_G r (t_Mo_eventSlot zz)) 198 ls st h c n := mx_G_eq (tm_Mo_eventSlot zz) r 198 ls st h c n
set_option maxRecDepth 20000 in
theorem st_Mo_eventSlot_199 (zz : Nat × Nat) (r : mx_T) (ls : mx_L) (st : List Value) (h : mx_H) (c n : Nat) : mx_G r (t_Mo_eventSlot zz) 199 ls st h c n = (o_push 1 (.int 2)) r (mx_G r (t_Mo_eventSlot zz)) 199 ls st h c n := mx_G_eq (tm_Mo_eventSlot zz) r 199 ls st h c n
set_option maxRecDepth 20000 in
theorem st_Mo_eventSlot_200 (zz : Nat × Nat) (r : mx_T) (ls : mx_L) (st : List Value) (h : mx_H) (c n : Nat) : mx_G r (t_Mo_eventSlot zz) 200 ls st h c n = (o_put 10 34 mx_vI) r (mx_G r (t_Mo_eventSlot zz)) 200 ls st h c n := mx_G_eq (tm_Mo_eventSlot zz) r 200 ls st h c n
set_option maxRecDepth 20000 in
theorem st_Mo_eventSlot_203 (zz : Nat × Nat) (r : mx_T) (ls : mx_L) (st : List Value) (h : mx_H) (c n : Nat) : mx_G r (t_Mo_eventSlot zz) 203 ls st h c n = (o_aload 1 0) r (mx_G r (t_Mo_eventSlot zz)) 203 ls st h c n := mx_G_eq (tm_Mo_eventSlot zz) r 203 ls st h c n
set_option maxRecDepth 20000 in
theorem st_Mo_eventSlot_204 (zz : Nat × Nat) (r : mx_T) (ls : mx_L) (st : List Value) (h : mx_H) (c n : Nat) : mx_G r (t_Mo_eventSlot zz) 204 ls st h c n = (o_call 0 0 1 0 0 (mx_rv 10) (S_Mo_disturb zz)) r (mx_G r (t_Mo_eventSlot zz)) 204 ls st h c n := mx_G_eq (tm_Mo_eventSlot zz) r 204 ls st h c n
set_option maxRecDepth 20000 in
theorem st_Mo_eventSlot_207 (zz : Nat × Nat) (r : mx_T) (ls : mx_L) (st : List Value) (h : mx_H) (c n : Nat) : mx_G r (t_Mo_eventSlot zz) 207 ls st h c n = (o_aload 1 0) r (mx_G r (t_Mo_eventSlot zz)) 207 ls st h c n := mx_G_eq (tm_Mo_eventSlot zz) r 207 ls st h c n
set_option maxRecDepth 20000 in
theorem st_Mo_eventSlot_208 (zz : Nat × Nat) (r : mx_T) (ls : mx_L) (st : List Value) (h : mx_H) (c n : Nat) : mx_G r (t_Mo_eventSlot zz) 208 ls st h c n = (o_get 10 18) r (mx_G r (t_Mo_eventSlot zz)) 208 ls st h c n := mx_G_eq (tm_Mo_eventSlot zz) r 208 ls st h c n
set_option maxRecDepth 20000 in
theorem st_Mo_eventSlot_211 (zz : Nat × Nat) (r : mx_T) (ls : mx_L) (st : List Value) (h : mx_H) (c n : Nat) : mx_G r (t_Mo_eventSlot zz) 211 ls st h c n = (o_push 1 (.int 3)) r (mx_G r (t_Mo_eventSlot zz)) 211 ls st h c n := mx_G_eq (tm_Mo_eventSlot zz) r 211 ls st h c n
set_option maxRecDepth 20000 in
theorem st_Mo_eventSlot_212 (zz : Nat × Nat) (r : mx_T) (ls : mx_L) (st : List Value) (h : mx_H) (c n : Nat) : mx_G r (t_Mo_eventSlot zz) 212 ls st h c n = (o_iload 1 1) r (mx_G r (t_Mo_eventSlot zz)) 212 ls st h c n := mx_G_eq (tm_Mo_eventSlot zz) r 212 ls st h c n
set_option maxRecDepth 20000 in
theorem st_Mo_eventSlot_213 (zz : Nat × Nat) (r : mx_T) (ls : mx_L) (st : List Value) (h : mx_H) (c n : Nat) : mx_G r (t_Mo_eventSlot zz) 213 ls st h c n = (o_ii (fun x y => x * y)) r (mx_G r (t_Mo_eventSlot zz)) 213 ls st h c n := mx_G_eq (tm_Mo_eventSlot zz) r 213 ls st h c n
set_option maxRecDepth 20000 in
theorem st_Mo_eventSlot_214 (zz : Nat × Nat) (r : mx_T) (ls : mx_L) (st : List Value) (h : mx_H) (c n : Nat) : mx_G r (t_Mo_eventSlot zz) 214 ls st h c n = (o_iald .int) r (mx_G r (t_Mo_eventSlot zz)) 214 ls st h c n := mx_G_eq (tm_Mo_eventSlot zz) r 214 ls st h c n
set_option maxRecDepth 20000 in
theorem st_Mo_eventSlot_215 (zz : Nat × Nat) (r : mx_T) (ls : mx_L) (st : List Value) (h : mx_H) (c n : Nat) : mx_G r (t_Mo_eventSlot zz) 215 ls st h c n = (o_istore 2 5) r (mx_G r (t_Mo_eventSlot zz)) 215 ls st h c n := mx_G_eq (tm_Mo_eventSlot zz) r 215 ls st h c n
set_option maxRecDepth 20000 in
theorem st_Mo_eventSlot_217 (zz : Nat × Nat) (r : mx_T) (ls : mx_L) (st : List Value) (h : mx_H) (c n : Nat) : mx_G r (t_Mo_eventSlot zz) 217 ls st h c n = (o_aload 1 0) r (mx_G r (t_Mo_eventSlot zz)) 217 ls st h c n := mx_G_eq (tm_Mo_eventSlot zz) r 217 ls st h c n
set_option maxRecDepth 20000 in
theorem st_Mo_eventSlot_218 (zz : Nat × Nat) (r : mx_T) (ls : mx_L) (st : List Value) (h : mx_H) (c n : Nat) : mx_G r (t_Mo_eventSlot zz) 218 ls st h c n = (o_aload 1 0) r (mx_G r (t_Mo_eventSlot zz)) 218 ls st h c n := mx_G_eq (tm_Mo_eventSlot zz) r 218 ls st h c n
set_option maxRecDepth 20000 in
theorem st_Mo_eventSlot_219 (zz : Nat × Nat) (r : mx_T) (ls : mx_L) (st : List Value) (h : mx_H) (c n : Nat) : mx_G r (t_Mo_eventSlot zz) 219 ls st h c n = (o_get 10 3) r (mx_G r (t_Mo_eventSlot zz)) 219 ls st h c n := mx_G_eq (tm_Mo_eventSlot zz) r 219 ls st h c n
set_option maxRecDepth 20000 in
theorem st_Mo_eventSlot_222 (zz : Nat × Nat) (r : mx_T) (ls : mx_L) (st : List Value) (h : mx_H) (c n : Nat) : mx_G r (t_Mo_eventSlot zz) 222 ls st h c n = (o_iload 2 5) r (mx_G r (t_Mo_eventSlot zz)) 222 ls st h c n := mx_G_eq (tm_Mo_eventSlot zz) r 222 ls st h c n
set_option maxRecDepth 20000 in
theorem st_Mo_eventSlot_224 (zz : Nat × Nat) (r : mx_T) (ls : mx_L) (st : List Value) (h : mx_H) (c n : Nat) : mx_G r (t_Mo_eventSlot zz) 224 ls st h c n = (o_iald .int) r (mx_G r (t_Mo_eventSlot zz)) 224 ls st h c n := mx_G_eq (tm_Mo_eventSlot zz) r 224 ls st h c n
set_option maxRecDepth 20000 in
theorem st_Mo_eventSlot_225 (zz : Nat × Nat) (r : mx_T) (ls : mx_L) (st : List Value) (h : mx_H) (c n : Nat) : mx_G r (t_Mo_eventSlot zz) 225 ls st h c n = (o_aload 1 0) r (mx_G r (t_Mo_eventSlot zz)) 225 ls st h c n := mx_G_eq (tm_Mo_eventSlot zz) r 225 ls st h c n
set_option maxRecDepth 20000 in
theorem st_Mo_eventSlot_226 (zz : Nat × Nat) (r : mx_T) (ls : mx_L) (st : List Value) (h : mx_H) (c n : Nat) : mx_G r (t_Mo_eventSlot zz) 226 ls st h c n = (o_get 10 4) r (mx_G r (t_Mo_eventSlot zz)) 226 ls st h c n := mx_G_eq (tm_Mo_eventSlot zz) r 226 ls st h c n
set_option maxRecDepth 20000 in
theorem st_Mo_eventSlot_229 (zz : Nat × Nat) (r : mx_T) (ls : mx_L) (st : List Value) (h : mx_H) (c n : Nat) : mx_G r (t_Mo_eventSlot zz) 229 ls st h c n = (o_iload 2 5) r (mx_G r (t_Mo_eventSlot zz)) 229 ls st h c n := mx_G_eq (tm_Mo_eventSlot zz) r 229 ls st h c n
set_option maxRecDepth 20000 in
theorem st_Mo_eventSlot_231 (zz : Nat × Nat) (r : mx_T) (ls : mx_L) (st : List Value) (h : mx_H) (c n : Nat) : mx_G r (t_Mo_eventSlot zz) 231 ls st h c n = (o_iald .boolean) r (mx_G r (t_Mo_eventSlot zz)) 231 ls st h c n := mx_G_eq (tm_Mo_eventSlot zz) r 231 ls st h c n
set_option maxRecDepth 20000 in
theorem st_Mo_eventSlot_232 (zz : Nat × Nat) (r : mx_T) (ls : mx_L) (st : List Value) (h : mx_H) (c n : Nat) : mx_G r (t_Mo_eventSlot zz) 232 ls st h c n = (o_call 0 0 3 0 0 (mx_rv 10) (S_Mo_sound zz)) r (mx_G r (t_Mo_eventSlot zz)) 232 ls st h c n := mx_G_eq (tm_Mo_eventSlot zz) r 232 ls st h c n
set_option maxRecDepth 20000 in
theorem st_Mo_eventSlot_235 (zz : Nat × Nat) (r : mx_T) (ls : mx_L) (st : List Value) (h : mx_H) (c n : Nat) : mx_G r (t_Mo_eventSlot zz) 235 ls st h c n = (o_if 307 (fun x => x = 0)) r (mx_G r (t_Mo_eventSlot zz)) 235 ls st h c n := mx_G_eq (tm_Mo_eventSlot zz) r 235 ls st h c n
set_option maxRecDepth 20000 in
theorem st_Mo_eventSlot_238 (zz : Nat × Nat) (r : mx_T) (ls : mx_L) (st : List Value) (h : mx_H) (c n : Nat) : mx_G r (t_Mo_eventSlot zz) 238 ls st h c n = (o_push 1 (.int 3)) r (mx_G r (t_Mo_eventSlot zz)) 238 ls st h c n := mx_G_eq (tm_Mo_eventSlot zz) r 238 ls st h c n
set_option maxRecDepth 20000 in
theorem st_Mo_eventSlot_239 (zz : Nat × Nat) (r : mx_T) (ls : mx_L) (st : List Value) (h : mx_H) (c n : Nat) : mx_G r (t_Mo_eventSlot zz) 239 ls st h c n = (o_iload 1 1) r (mx_G r (t_Mo_eventSlot zz)) 239 ls st h c n := mx_G_eq (tm_Mo_eventSlot zz) r 239 ls st h c n
set_option maxRecDepth 20000 in
theorem st_Mo_eventSlot_240 (zz : Nat × Nat) (r : mx_T) (ls : mx_L) (st : List Value) (h : mx_H) (c n : Nat) : mx_G r (t_Mo_eventSlot zz) 240 ls st h c n = (o_ii (fun x y => x * y)) r (mx_G r (t_Mo_eventSlot zz)) 240 ls st h c n := mx_G_eq (tm_Mo_eventSlot zz) r 240 ls st h c n
set_option maxRecDepth 20000 in
theorem st_Mo_eventSlot_241 (zz : Nat × Nat) (r : mx_T) (ls : mx_L) (st : List Value) (h : mx_H) (c n : Nat) : mx_G r (t_Mo_eventSlot zz) 241 ls st h c n = (o_istore 2 6) r (mx_G r (t_Mo_eventSlot zz)) 241 ls st h c n := mx_G_eq (tm_Mo_eventSlot zz) r 241 ls st h c n
set_option maxRecDepth 20000 in
theorem st_Mo_eventSlot_243 (zz : Nat × Nat) (r : mx_T) (ls : mx_L) (st : List Value) (h : mx_H) (c n : Nat) : mx_G r (t_Mo_eventSlot zz) 243 ls st h c n = (o_iload 2 6) r (mx_G r (t_Mo_eventSlot zz)) 243 ls st h c n := mx_G_eq (tm_Mo_eventSlot zz) r 243 ls st h c n
set_option maxRecDepth 20000 in
theorem st_Mo_eventSlot_245 (zz : Nat × Nat) (r : mx_T) (ls : mx_L) (st : List Value) (h : mx_H) (c n : Nat) : mx_G r (t_Mo_eventSlot zz) 245 ls st h c n = (o_push 1 (.int 3)) r (mx_G r (t_Mo_eventSlot zz)) 245 ls st h c n := mx_G_eq (tm_Mo_eventSlot zz) r 245 ls st h c n
set_option maxRecDepth 20000 in
theorem st_Mo_eventSlot_246 (zz : Nat × Nat) (r : mx_T) (ls : mx_L) (st : List Value) (h : mx_H) (c n : Nat) : mx_G r (t_Mo_eventSlot zz) 246 ls st h c n = (o_iload 1 1) r (mx_G r (t_Mo_eventSlot zz)) 246 ls st h c n := mx_G_eq (tm_Mo_eventSlot zz) r 246 ls st h c n
set_option maxRecDepth 20000 in
theorem st_Mo_eventSlot_247 (zz : Nat × Nat) (r : mx_T) (ls : mx_L) (st : List Value) (h : mx_H) (c n : Nat) : mx_G r (t_Mo_eventSlot zz) 247 ls st h c n = (o_ii (fun x y => x * y)) r (mx_G r (t_Mo_eventSlot zz)) 247 ls st h c n := mx_G_eq (tm_Mo_eventSlot zz) r 247 ls st h c n
set_option maxRecDepth 20000 in
theorem st_Mo_eventSlot_248 (zz : Nat × Nat) (r : mx_T) (ls : mx_L) (st : List Value) (h : mx_H) (c n : Nat) : mx_G r (t_Mo_eventSlot zz) 248 ls st h c n = (o_push 1 (.int 3)) r (mx_G r (t_Mo_eventSlot zz)) 248 ls st h c n := mx_G_eq (tm_Mo_eventSlot zz) r 248 ls st h c n
set_option maxRecDepth 20000 in
theorem st_Mo_eventSlot_249 (zz : Nat × Nat) (r : mx_T) (ls : mx_L) (st : List Value) (h : mx_H) (c n : Nat) : mx_G r (t_Mo_eventSlot zz) 249 ls st h c n = (o_ii (fun x y => x + y)) r (mx_G r (t_Mo_eventSlot zz)) 249 ls st h c n := mx_G_eq (tm_Mo_eventSlot zz) r 249 ls st h c n
set_option maxRecDepth 20000 in
theorem st_Mo_eventSlot_250 (zz : Nat × Nat) (r : mx_T) (ls : mx_L) (st : List Value) (h : mx_H) (c n : Nat) : mx_G r (t_Mo_eventSlot zz) 250 ls st h c n = (o_icmp 307 (fun x y => y ≤ x)) r (mx_G r (t_Mo_eventSlot zz)) 250 ls st h c n := mx_G_eq (tm_Mo_eventSlot zz) r 250 ls st h c n
set_option maxRecDepth 20000 in
theorem st_Mo_eventSlot_253 (zz : Nat × Nat) (r : mx_T) (ls : mx_L) (st : List Value) (h : mx_H) (c n : Nat) : mx_G r (t_Mo_eventSlot zz) 253 ls st h c n = (o_aload 1 0) r (mx_G r (t_Mo_eventSlot zz)) 253 ls st h c n := mx_G_eq (tm_Mo_eventSlot zz) r 253 ls st h c n
set_option maxRecDepth 20000 in
theorem st_Mo_eventSlot_254 (zz : Nat × Nat) (r : mx_T) (ls : mx_L) (st : List Value) (h : mx_H) (c n : Nat) : mx_G r (t_Mo_eventSlot zz) 254 ls st h c n = (o_get 10 18) r (mx_G r (t_Mo_eventSlot zz)) 254 ls st h c n := mx_G_eq (tm_Mo_eventSlot zz) r 254 ls st h c n
set_option maxRecDepth 20000 in
theorem st_Mo_eventSlot_257 (zz : Nat × Nat) (r : mx_T) (ls : mx_L) (st : List Value) (h : mx_H) (c n : Nat) : mx_G r (t_Mo_eventSlot zz) 257 ls st h c n = (o_iload 2 6) r (mx_G r (t_Mo_eventSlot zz)) 257 ls st h c n := mx_G_eq (tm_Mo_eventSlot zz) r 257 ls st h c n
set_option maxRecDepth 20000 in
theorem st_Mo_eventSlot_259 (zz : Nat × Nat) (r : mx_T) (ls : mx_L) (st : List Value) (h : mx_H) (c n : Nat) : mx_G r (t_Mo_eventSlot zz) 259 ls st h c n = (o_iald .int) r (mx_G r (t_Mo_eventSlot zz)) 259 ls st h c n := mx_G_eq (tm_Mo_eventSlot zz) r 259 ls st h c n
set_option maxRecDepth 20000 in
theorem st_Mo_eventSlot_260 (zz : Nat × Nat) (r : mx_T) (ls : mx_L) (st : List Value) (h : mx_H) (c n : Nat) : mx_G r (t_Mo_eventSlot zz) 260 ls st h c n = (o_push 1 (.int (-1))) r (mx_G r (t_Mo_eventSlot zz)) 260 ls st h c n := mx_G_eq (tm_Mo_eventSlot zz) r 260 ls st h c n
set_option maxRecDepth 20000 in
theorem st_Mo_eventSlot_261 (zz : Nat × Nat) (r : mx_T) (ls : mx_L) (st : List Value) (h : mx_H) (c n : Nat) : mx_G r (t_Mo_eventSlot zz) 261 ls st h c n = (o_icmp 301 (fun x y => x = y)) r (mx_G r (t_Mo_eventSlot zz)) 261 ls st h c n := mx_G_eq (tm_Mo_eventSlot zz) r 261 ls st h c n
set_option maxRecDepth 20000 in
theorem st_Mo_eventSlot_264 (zz : Nat × Nat) (r : mx_T) (ls : mx_L) (st : List Value) (h : mx_H) (c n : Nat) : mx_G r (t_Mo_eventSlot zz) 264 ls st h c n = (o_aload 1 0) r (mx_G r (t_Mo_eventSlot zz)) 264 ls st h c n := mx_G_eq (tm_Mo_eventSlot zz) r 264 ls st h c n
set_option maxRecDepth 20000 in
theorem st_Mo_eventSlot_265 (zz : Nat × Nat) (r : mx_T) (ls : mx_L) (st : List Value) (h : mx_H) (c n : Nat) : mx_G r (t_Mo_eventSlot zz) 265 ls st h c n = (o_get 10 1) r (mx_G r (t_Mo_eventSlot zz)) 265 ls st h c n := mx_G_eq (tm_Mo_eventSlot zz) r 265 ls st h c n
set_option maxRecDepth 20000 in
theorem st_Mo_eventSlot_268 (zz : Nat × Nat) (r : mx_T) (ls : mx_L) (st : List Value) (h : mx_H) (c n : Nat) : mx_G r (t_Mo_eventSlot zz) 268 ls st h c n = (o_aload 1 0) r (mx_G r (t_Mo_eventSlot zz)) 268 ls st h c n := mx_G_eq (tm_Mo_eventSlot zz) r 268 ls st h c n
set_option maxRecDepth 20000 in
theorem st_Mo_eventSlot_269 (zz : Nat × Nat) (r : mx_T) (ls : mx_L) (st : List Value) (h : mx_H) (c n : Nat) : mx_G r (t_Mo_eventSlot zz) 269 ls st h c n = (o_get 10 18) r (mx_G r (t_Mo_eventSlot zz)) 269 ls st h c n := mx_G_eq (tm_Mo_eventSlot zz) r 269 ls st h c n
set_option maxRecDepth 20000 in
theorem st_Mo_eventSlot_272 (zz : Nat × Nat) (r : mx_T) (ls : mx_L) (st : List Value) (h : mx_H) (c n : Nat) : mx_G r (t_Mo_eventSlot zz) 272 ls st h c n = (o_iload 2 6) r (mx_G r (t_Mo_eventSlot zz)) 272 ls st h c n := mx_G_eq (tm_Mo_eventSlot zz) r 272 ls st h c n
set_option maxRecDepth 20000 in
theorem st_Mo_eventSlot_274 (zz : Nat × Nat) (r : mx_T) (ls : mx_L) (st : List Value) (h : mx_H) (c n : Nat) : mx_G r (t_Mo_eventSlot zz) 274 ls st h c n = (o_iald .int) r (mx_G r (t_Mo_eventSlot zz)) 274 ls st h c n := mx_G_eq (tm_Mo_eventSlot zz) r 274 ls st h c n
set_option maxRecDepth 20000 in
theorem st_Mo_eventSlot_275 (zz : Nat × Nat) (r : mx_T) (ls : mx_L) (st : List Value) (h : mx_H) (c n : Nat) : mx_G r (t_Mo_eventSlot zz) 275 ls st h c n = (o_iald .int) r (mx_G r (t_Mo_eventSlot zz)) 275 ls st h c n := mx_G_eq (tm_Mo_eventSlot zz) r 275 ls st h c n
set_option maxRecDepth 20000 in
theorem st_Mo_eventSlot_276 (zz : Nat × Nat) (r : mx_T) (ls : mx_L) (st : List Value) (h : mx_H) (c n : Nat) : mx_G r (t_Mo_eventSlot zz) 276 ls st h c n = (o_call 0 0 1 0 0 (fun _ _ => True) (S_Mo_guarded zz)) r (mx_G r (t_Mo_eventSlot zz)) 276 ls st h c n := mx_G_eq (tm_Mo_eventSlot zz) r 276 ls st h c n
set_option maxRecDepth 20000 in
theorem st_Mo_eventSlot_279 (zz : Nat × Nat) (r : mx_T) (ls : mx_L) (st : List Value) (h : mx_H) (c n : Nat) : mx_G r (t_Mo_eventSlot zz) 279 ls st h c n = (o_aload 1 0) r (mx_G r (t_Mo_eventSlot zz)) 279 ls st h c n := mx_G_eq (tm_Mo_eventSlot zz) r 279 ls st h c n
set_option maxRecDepth 20000 in
theorem st_Mo_eventSlot_280 (zz : Nat × Nat) (r : mx_T) (ls : mx_L) (st : List Value) (h : mx_H) (c n : Nat) : mx_G r (t_Mo_eventSlot zz) 280 ls st h c n = (o_get 10 35) r (mx_G r (t_Mo_eventSlot zz)) 280 ls st h c n := mx_G_eq (tm_Mo_eventSlot zz) r 280 ls st h c n
set_option maxRecDepth 20000 in
theorem st_Mo_eventSlot_283 (zz : Nat × Nat) (r : mx_T) (ls : mx_L) (st : List Value) (h : mx_H) (c n : Nat) : mx_G r (t_Mo_eventSlot zz) 283 ls st h c n = (o_push 1 (.int 1)) r (mx_G r (t_Mo_eventSlot zz)) 283 ls st h c n := mx_G_eq (tm_Mo_eventSlot zz) r 283 ls st h c n
set_option maxRecDepth 20000 in
theorem st_Mo_eventSlot_284 (zz : Nat × Nat) (r : mx_T) (ls : mx_L) (st : List Value) (h : mx_H) (c n : Nat) : mx_G r (t_Mo_eventSlot zz) 284 ls st h c n = (o_iald .int) r (mx_G r (t_Mo_eventSlot zz)) 284 ls st h c n := mx_G_eq (tm_Mo_eventSlot zz) r 284 ls st h c n
set_option maxRecDepth 20000 in
theorem st_Mo_eventSlot_285 (zz : Nat × Nat) (r : mx_T) (ls : mx_L) (st : List Value) (h : mx_H) (c n : Nat) : mx_G r (t_Mo_eventSlot zz) 285 ls st h c n = (o_icmp 301 (fun x y => ¬ x = y)) r (mx_G r (t_Mo_eventSlot zz)) 285 ls st h c n := mx_G_eq (tm_Mo_eventSlot zz) r 285 ls st h c n
set_option maxRecDepth 20000 in
theorem st_Mo_eventSlot_288 (zz : Nat × Nat) (r : mx_T) (ls : mx_L) (st : List Value) (h : mx_H) (c n : Nat) : mx_G r (t_Mo_eventSlot zz) 288 ls st h c n = (o_aload 1 0) r (mx_G r (t_Mo_eventSlot zz)) 288 ls st h c n := mx_G_eq (tm_Mo_eventSlot zz) r 288 ls st h c n
set_option maxRecDepth 20000 in
theorem st_Mo_eventSlot_289 (zz : Nat × Nat) (r : mx_T) (ls : mx_L) (st : List Value) (h : mx_H) (c n : Nat) : mx_G r (t_Mo_eventSlot zz) 289 ls st h c n = (o_aload 1 0) r (mx_G r (t_Mo_eventSlot zz)) 289 ls st h c n := mx_G_eq (tm_Mo_eventSlot zz) r 289 ls st h c n
set_option maxRecDepth 20000 in
theorem st_Mo_eventSlot_290 (zz : Nat × Nat) (r : mx_T) (ls : mx_L) (st : List Value) (h : mx_H) (c n : Nat) : mx_G r (t_Mo_eventSlot zz) 290 ls st h c n = (o_get 10 18) r (mx_G r (t_Mo_eventSlot zz)) 290 ls st h c n := mx_G_eq (tm_Mo_eventSlot zz) r 290 ls st h c n
set_option maxRecDepth 20000 in
theorem st_Mo_eventSlot_293 (zz : Nat × Nat) (r : mx_T) (ls : mx_L) (st : List Value) (h : mx_H) (c n : Nat) : mx_G r (t_Mo_eventSlot zz) 293 ls st h c n = (o_iload 2 6) r (mx_G r (t_Mo_eventSlot zz)) 293 ls st h c n := mx_G_eq (tm_Mo_eventSlot zz) r 293 ls st h c n
set_option maxRecDepth 20000 in
theorem st_Mo_eventSlot_295 (zz : Nat × Nat) (r : mx_T) (ls : mx_L) (st : List Value) (h : mx_H) (c n : Nat) : mx_G r (t_Mo_eventSlot zz) 295 ls st h c n = (o_iald .int) r (mx_G r (t_Mo_eventSlot zz)) 295 ls st h c n := mx_G_eq (tm_Mo_eventSlot zz) r 295 ls st h c n
set_option maxRecDepth 20000 in
theorem st_Mo_eventSlot_296 (zz : Nat × Nat) (r : mx_T) (ls : mx_L) (st : List Value) (h : mx_H) (c n : Nat) : mx_G r (t_Mo_eventSlot zz) 296 ls st h c n = (o_call 0 0 2 0 0 (mx_rv 10) (S_Mo_receive zz)) r (mx_G r (t_Mo_eventSlot zz)) 296 ls st h c n := mx_G_eq (tm_Mo_eventSlot zz) r 296 ls st h c n
set_option maxRecDepth 20000 in
theorem st_Mo_eventSlot_299 (zz : Nat × Nat) (r : mx_T) (ls : mx_L) (st : List Value) (h : mx_H) (c n : Nat) : mx_G r (t_Mo_eventSlot zz) 299 ls st h c n = (o_push 1 (.int 1)) r (mx_G r (t_Mo_eventSlot zz)) 299 ls st h c n := mx_G_eq (tm_Mo_eventSlot zz) r 299 ls st h c n
set_option maxRecDepth 20000 in
theorem st_Mo_eventSlot_300 (zz : Nat × Nat) (r : mx_T) (ls : mx_L) (st : List Value) (h : mx_H) (c n : Nat) : mx_G r (t_Mo_eventSlot zz) 300 ls st h c n = (o_iret) r (mx_G r (t_Mo_eventSlot zz)) 300 ls st h c n := mx_G_eq (tm_Mo_eventSlot zz) r 300 ls st h c n
set_option maxRecDepth 20000 in
theorem st_Mo_eventSlot_301 (zz : Nat × Nat) (r : mx_T) (ls : mx_L) (st : List Value) (h : mx_H) (c n : Nat) : mx_G r (t_Mo_eventSlot zz) 301 ls st h c n = (o_iinc 6 1) r (mx_G r (t_Mo_eventSlot zz)) 301 ls st h c n := mx_G_eq (tm_Mo_eventSlot zz) r 301 ls st h c n
set_option maxRecDepth 20000 in
theorem st_Mo_eventSlot_304 (zz : Nat × Nat) (r : mx_T) (ls : mx_L) (st : List Value) (h : mx_H) (c n : Nat) : mx_G r (t_Mo_eventSlot zz) 304 ls st h c n = (o_goto 243) r (mx_G r (t_Mo_eventSlot zz)) 304 ls st h c n := mx_G_eq (tm_Mo_eventSlot zz) r 304 ls st h c n
set_option maxRecDepth 20000 in
theorem st_Mo_eventSlot_307 (zz : Nat × Nat) (r : mx_T) (ls : mx_L) (st : List Value) (h : mx_H) (c n : Nat) : mx_G r (t_Mo_eventSlot zz) 307 ls st h c n = (o_aload 1 0) r (mx_G r (t_Mo_eventSlot zz)) 307 ls st h c n := mx_G_eq (tm_Mo_eventSlot zz) r 307 ls st h c n
set_option maxRecDepth 20000 in
theorem st_Mo_eventSlot_308 (zz : Nat × Nat) (r : mx_T) (ls : mx_L) (st : List Value) (h : mx_H) (c n : Nat) : mx_G r (t_Mo_eventSlot zz) 308 ls st h c n = (o_iload 1 1) r (mx_G r (t_Mo_eventSlot zz)) 308 ls st h c n := mx_G_eq (tm_Mo_eventSlot zz) r 308 ls st h c n
set_option maxRecDepth 20000 in
theorem st_Mo_eventSlot_309 (zz : Nat × Nat) (r : mx_T) (ls : mx_L) (st : List Value) (h : mx_H) (c n : Nat) : mx_G r (t_Mo_eventSlot zz) 309 ls st h c n = (o_push 1 (.int 1)) r (mx_G r (t_Mo_eventSlot zz)) 309 ls st h c n := mx_G_eq (tm_Mo_eventSlot zz) r 309 ls st h c n
set_option maxRecDepth 20000 in
theorem st_Mo_eventSlot_310 (zz : Nat × Nat) (r : mx_T) (ls : mx_L) (st : List Value) (h : mx_H) (c n : Nat) : mx_G r (t_Mo_eventSlot zz) 310 ls st h c n = (o_ii (fun x y => x + y)) r (mx_G r (t_Mo_eventSlot zz)) 310 ls st h c n := mx_G_eq (tm_Mo_eventSlot zz) r 310 ls st h c n
set_option maxRecDepth 20000 in
theorem st_Mo_eventSlot_311 (zz : Nat × Nat) (r : mx_T) (ls : mx_L) (st : List Value) (h : mx_H) (c n : Nat) : mx_G r (t_Mo_eventSlot zz) 311 ls st h c n = (o_put 10 33 mx_vI) r (mx_G r (t_Mo_eventSlot zz)) 311 ls st h c n := mx_G_eq (tm_Mo_eventSlot zz) r 311 ls st h c n
set_option maxRecDepth 20000 in
theorem st_Mo_eventSlot_314 (zz : Nat × Nat) (r : mx_T) (ls : mx_L) (st : List Value) (h : mx_H) (c n : Nat) : mx_G r (t_Mo_eventSlot zz) 314 ls st h c n = (o_push 1 (.int 4)) r (mx_G r (t_Mo_eventSlot zz)) 314 ls st h c n := mx_G_eq (tm_Mo_eventSlot zz) r 314 ls st h c n
set_option maxRecDepth 20000 in
theorem st_Mo_eventSlot_315 (zz : Nat × Nat) (r : mx_T) (ls : mx_L) (st : List Value) (h : mx_H) (c n : Nat) : mx_G r (t_Mo_eventSlot zz) 315 ls st h c n = (o_iret) r (mx_G r (t_Mo_eventSlot zz)) 315 ls st h c n := mx_G_eq (tm_Mo_eventSlot zz) r 315 ls st h c n
