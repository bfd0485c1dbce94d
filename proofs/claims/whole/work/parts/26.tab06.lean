theorem d_Mo_fit_0 : decode c_Mo_fit 0 = .ok (.aload_n 0, 1) := by decide +kernel
theorem d_Mo_fit_1 : decode c_Mo_fit 1 = .ok (.getfield 13, 3) := by decide +kernel
theorem d_Mo_fit_4 : decode c_Mo_fit 4 = .ok (.iload_n 1, 1) := by decide +kernel
theorem d_Mo_fit_5 : decode c_Mo_fit 5 = .ok (.iaload, 1) := by decide +kernel
theorem d_Mo_fit_6 : decode c_Mo_fit 6 = .ok (.aload_n 0, 1) := by decide +kernel
theorem d_Mo_fit_7 : decode c_Mo_fit 7 = .ok (.getfield 13, 3) := by decide +kernel
theorem d_Mo_fit_10 : decode c_Mo_fit 10 = .ok (.iload_n 2, 1) := by decide +kernel
theorem d_Mo_fit_11 : decode c_Mo_fit 11 = .ok (.iaload, 1) := by decide +kernel
theorem d_Mo_fit_12 : decode c_Mo_fit 12 = .ok (.if_icmp .eq 37, 3) := by decide +kernel
theorem d_Mo_fit_15 : decode c_Mo_fit 15 = .ok (.aload_n 0, 1) := by decide +kernel
theorem d_Mo_fit_16 : decode c_Mo_fit 16 = .ok (.getfield 16, 3) := by decide +kernel
theorem d_Mo_fit_19 : decode c_Mo_fit 19 = .ok (.iload_n 1, 1) := by decide +kernel
theorem d_Mo_fit_20 : decode c_Mo_fit 20 = .ok (.iaload, 1) := by decide +kernel
theorem d_Mo_fit_21 : decode c_Mo_fit 21 = .ok (.aload_n 0, 1) := by decide +kernel
theorem d_Mo_fit_22 : decode c_Mo_fit 22 = .ok (.getfield 16, 3) := by decide +kernel
theorem d_Mo_fit_25 : decode c_Mo_fit 25 = .ok (.iload_n 2, 1) := by decide +kernel
theorem d_Mo_fit_26 : decode c_Mo_fit 26 = .ok (.iaload, 1) := by decide +kernel
theorem d_Mo_fit_27 : decode c_Mo_fit 27 = .ok (.if_icmp .ne 22, 3) := by decide +kernel
theorem d_Mo_fit_30 : decode c_Mo_fit 30 = .ok (.aload_n 0, 1) := by decide +kernel
theorem d_Mo_fit_31 : decode c_Mo_fit 31 = .ok (.getfield 19, 3) := by decide +kernel
theorem d_Mo_fit_34 : decode c_Mo_fit 34 = .ok (.iload_n 1, 1) := by decide +kernel
theorem d_Mo_fit_35 : decode c_Mo_fit 35 = .ok (.baload, 1) := by decide +kernel
theorem d_Mo_fit_36 : decode c_Mo_fit 36 = .ok (.aload_n 0, 1) := by decide +kernel
theorem d_Mo_fit_37 : decode c_Mo_fit 37 = .ok (.getfield 19, 3) := by decide +kernel
theorem d_Mo_fit_40 : decode c_Mo_fit 40 = .ok (.iload_n 2, 1) := by decide +kernel
theorem d_Mo_fit_41 : decode c_Mo_fit 41 = .ok (.baload, 1) := by decide +kernel
theorem d_Mo_fit_42 : decode c_Mo_fit 42 = .ok (.if_icmp .ne 7, 3) := by decide +kernel
theorem d_Mo_fit_45 : decode c_Mo_fit 45 = .ok (.iconst 1, 1) := by decide +kernel
theorem d_Mo_fit_46 : decode c_Mo_fit 46 = .ok (.goto 4, 3) := by decide +kernel
theorem d_Mo_fit_49 : decode c_Mo_fit 49 = .ok (.iconst 0, 1) := by decide +kernel
theorem d_Mo_fit_50 : decode c_Mo_fit 50 = .ok (.ireturn, 1) := by decide +kernel
def t_Mo_fit (zz : Nat × Nat) : List (Nat × mx_O) := [(0, o_aload 1 0),
  (1, o_get 10 2),
  (4, o_iload 1 1),
  (5, o_iald .int),
  (6, o_aload 1 0),
  (7, o_get 10 2),
  (10, o_iload 1 2),
  (11, o_iald .int),
  (12, o_icmp 49 (fun x y => x = y)),
  (15, o_aload 1 0),
  (16, o_get 10 3),
  (19, o_iload 1 1),
  (20, o_iald .int),
  (21, o_aload 1 0),
  (22, o_get 10 3),
  (25, o_iload 1 2),
  (26, o_iald .int),
  (27, o_icmp 49 (fun x y => ¬ x = y)),
  (30, o_aload 1 0),
  (31, o_get 10 4),
  (34, o_iload 1 1),
  (35, o_iald .boolean),
  (36, o_aload 1 0),
  (37, o_get 10 4),
  (40, o_iload 1 2),
  (41, o_iald .boolean),
  (42, o_icmp 49 (fun x y => ¬ x = y)),
  (45, o_push 1 (.int 1)),
  (46, o_goto 50),
  (49, o_push 1 (.int 0)),
  (50, o_zret)]
set_option maxRecDepth 100000 in
theorem tm_Mo_fit (zz : Nat × Nat) : mx_All (fun _ o => mx_Mono o) (t_Mo_fit zz) := by
  refine mx_all_cons (mo_st) ?_
  refine mx_all_cons (mo_st) ?_
  refine mx_all_cons (mo_st) ?_
  refine mx_all_cons (mo_sc) ?_
  refine mx_all_cons (mo_st) ?_
  refine mx_all_cons (mo_st) ?_
  refine mx_all_cons (mo_st) ?_
  refine mx_all_cons (mo_sc) ?_
  refine mx_all_cons (mo_br) ?_
  refine mx_all_cons (mo_st) ?_
  refine mx_all_cons (mo_st) ?_
  refine mx_all_cons (mo_st) ?_
  refine mx_all_cons (mo_sc) ?_
  refine mx_all_cons (mo_st) ?_
  refine mx_all_cons (mo_st) ?_
  refine mx_all_cons (mo_st) ?_
  refine mx_all_cons (mo_sc) ?_
  refine mx_all_cons (mo_br) ?_
  refine mx_all_cons (mo_st) ?_
  refine mx_all_cons (mo_st) ?_
  refine mx_all_cons (mo_st) ?_
  refine mx_all_cons (mo_sc) ?_
  refine mx_all_cons (mo_st) ?_
  refine mx_all_cons (mo_st) ?_
  refine mx_all_cons (mo_st) ?_
  refine mx_all_cons (mo_sc) ?_
  refine mx_all_cons (mo_br) ?_
  refine mx_all_cons (mo_st) ?_
  refine mx_all_cons (mo_st) ?_
  refine mx_all_cons (mo_st) ?_
  refine mx_all_cons (mo_zret) ?_
  exact mx_all_nil
def S_Mo_fit (zz : Nat × Nat) : mx_Sp := mx_S 3 0 0 (t_Mo_fit zz)
theorem sm_Mo_fit (zz : Nat × Nat) : mx_SMono (S_Mo_fit zz) := mx_S_mono (tm_Mo_fit zz)
abbrev rm_Mo_fit : Room := { frames := 0, cells := 0, slots := 0, locals := 0 }
set_option maxHeartbeats 4000000 in
set_option maxRecDepth 100000 in
theorem m_Mo_fit (l : Launch) (zz : Nat × Nat) : mx_Met l y_Mo_fit (wsOf y_Mo_fit c_Mo_fit 3 (some .boolean)) rm_Mo_fit wcl (mx_Z zz) 0 0 (S_Mo_fit zz) := by
  refine mx_met (cc := c_Mo_fit) (ret := (some .boolean)) (by decide) rfl ?_
  intro p e s m args below meth c D A Post X hz hr hlk hnm
  have hm : ∀ w ∈ mw, w.before args s = true := fun w h => X.1.2.2.2.2 w (List.mem_cons_of_mem _ h)
  refine mx_all_cons (ok_aload (fun hl kk => lv_aload_n X.1.1 X.1.2.1 d_Mo_fit_0 rfl hl kk) (fun hl kk => lv_aload_nN X.1.1 X.1.2.1 d_Mo_fit_0 rfl hl kk)) ?_
  refine mx_all_cons (ok_get (C := "HeaderScheduleModel") (T := T_Mo) (N := 40) X (mw_up in_Mo) rfl 2 (by decide) (hm _ w679) (fun _ h9 => h9) d_Mo_fit_1) ?_
  refine mx_all_cons (ok_iload (fun hl kk => lv_iload_n X.1.1 X.1.2.1 d_Mo_fit_4 rfl hl kk)) ?_
  refine mx_all_cons (ok_iald X d_Mo_fit_5) ?_
  refine mx_all_cons (ok_aload (fun hl kk => lv_aload_n X.1.1 X.1.2.1 d_Mo_fit_6 rfl hl kk) (fun hl kk => lv_aload_nN X.1.1 X.1.2.1 d_Mo_fit_6 rfl hl kk)) ?_
  refine mx_all_cons (ok_get (C := "HeaderScheduleModel") (T := T_Mo) (N := 40) X (mw_up in_Mo) rfl 2 (by decide) (hm _ w679) (fun _ h9 => h9) d_Mo_fit_7) ?_
  refine mx_all_cons (ok_iload (fun hl kk => lv_iload_n X.1.1 X.1.2.1 d_Mo_fit_10 rfl hl kk)) ?_
  refine mx_all_cons (ok_iald X d_Mo_fit_11) ?_
  refine mx_all_cons (ok_icmp (fun kt kf => lv_icmp_eq X.1.1 X.1.2.1 d_Mo_fit_12 (by decide) kt kf)) ?_
  refine mx_all_cons (ok_aload (fun hl kk => lv_aload_n X.1.1 X.1.2.1 d_Mo_fit_15 rfl hl kk) (fun hl kk => lv_aload_nN X.1.1 X.1.2.1 d_Mo_fit_15 rfl hl kk)) ?_
  refine mx_all_cons (ok_get (C := "HeaderScheduleModel") (T := T_Mo) (N := 40) X (mw_up in_Mo) rfl 3 (by decide) (hm _ w680) (fun _ h9 => h9) d_Mo_fit_16) ?_
  refine mx_all_cons (ok_iload (fun hl kk => lv_iload_n X.1.1 X.1.2.1 d_Mo_fit_19 rfl hl kk)) ?_
  refine mx_all_cons (ok_iald X d_Mo_fit_20) ?_
  refine mx_all_cons (ok_aload (fun hl kk => lv_aload_n X.1.1 X.1.2.1 d_Mo_fit_21 rfl hl kk) (fun hl kk => lv_aload_nN X.1.1 X.1.2.1 d_Mo_fit_21 rfl hl kk)) ?_
  refine mx_all_cons (ok_get (C := "HeaderScheduleModel") (T := T_Mo) (N := 40) X (mw_up in_Mo) rfl 3 (by decide) (hm _ w680) (fun _ h9 => h9) d_Mo_fit_22) ?_
  refine mx_all_cons (ok_iload (fun hl kk => lv_iload_n X.1.1 X.1.2.1 d_Mo_fit_25 rfl hl kk)) ?_
  refine mx_all_cons (ok_iald X d_Mo_fit_26) ?_
  refine mx_all_cons (ok_icmp (fun kt kf => lv_icmp_ne X.1.1 X.1.2.1 d_Mo_fit_27 (by decide) kt (fun z => kf (fun g => g z)))) ?_
  refine mx_all_cons (ok_aload (fun hl kk => lv_aload_n X.1.1 X.1.2.1 d_Mo_fit_30 rfl hl kk) (fun hl kk => lv_aload_nN X.1.1 X.1.2.1 d_Mo_fit_30 rfl hl kk)) ?_
  refine mx_all_cons (ok_get (C := "HeaderScheduleModel") (T := T_Mo) (N := 40) X (mw_up in_Mo) rfl 4 (by decide) (hm _ w681) (fun _ h9 => h9) d_Mo_fit_31) ?_
  refine mx_all_cons (ok_iload (fun hl kk => lv_iload_n X.1.1 X.1.2.1 d_Mo_fit_34 rfl hl kk)) ?_
  refine mx_all_cons (ok_zald X d_Mo_fit_35) ?_
  refine mx_all_cons (ok_aload (fun hl kk => lv_aload_n X.1.1 X.1.2.1 d_Mo_fit_36 rfl hl kk) (fun hl kk => lv_aload_nN X.1.1 X.1.2.1 d_Mo_fit_36 rfl hl kk)) ?_
  refine mx_all_cons (ok_get (C := "HeaderScheduleModel") (T := T_Mo) (N := 40) X (mw_up in_Mo) rfl 4 (by decide) (hm _ w681) (fun _ h9 => h9) d_Mo_fit_37) ?_
  refine mx_all_cons (ok_iload (fun hl kk => lv_iload_n X.1.1 X.1.2.1 d_Mo_fit_40 rfl hl kk)) ?_
  refine mx_all_cons (ok_zald X d_Mo_fit_41) ?_
  refine mx_all_cons (ok_icmp (fun kt kf => lv_icmp_ne X.1.1 X.1.2.1 d_Mo_fit_42 (by decide) kt (fun z => kf (fun g => g z)))) ?_
  refine mx_all_cons (ok_push (fun kk => lv_iconst X.1.1 X.1.2.1 d_Mo_fit_45 (by decide) kk)) ?_
  refine mx_all_cons (ok_goto X d_Mo_fit_46 (by decide)) ?_
  refine mx_all_cons (ok_push (fun kk => lv_iconst X.1.1 X.1.2.1 d_Mo_fit_49 (by decide) kk)) ?_
  refine mx_all_cons (ok_zret X hr hlk d_Mo_fit_50) ?_
  exact mx_all_nil
theorem st_Mo_fit_0 (zz : Nat × Nat) (r : mx_T) (ls : mx_L) (st : List Value) (h : mx_H) (c n : Nat) : mx_G r (t_Mo_fit zz) 0 ls st h c n = (o_aload 1 0) r (mx_G r (t_Mo_fit zz)) 0 ls st h c n := mx_G_eq (tm_Mo_fit zz) r 0 ls st h c n
theorem st_Mo_fit_1 (zz : Nat × Nat) (r : mx_T) (ls : mx_L) (st : List Value) (h : mx_H) (c n : Nat) : mx_G r (t_Mo_fit zz) 1 ls st h c n = (o_get 10 2) r (mx_G r (t_Mo_fit zz)) 1 ls st h c n := mx_G_eq (tm_Mo_fit zz) r 1 ls st h c n
theorem st_Mo_fit_4 (zz : Nat × Nat) (r : mx_T) (ls : mx_L) (st : List Value) (h : mx_H) (c n : Nat) : mx_G r (t_Mo_fit zz) 4 ls st h c n = (o_iload 1 1) r (mx_G r (t_Mo_fit zz)) 4 ls st h c n := mx_G_eq (tm_Mo_fit zz) r 4 ls st h c n
theorem st_Mo_fit_5 (zz : Nat × Nat) (r : mx_T) (ls : mx_L) (st : List Value) (h : mx_H) (c n : Nat) : mx_G r (t_Mo_fit zz) 5 ls st h c n = (o_iald .int) r (mx_G r (t_Mo_fit zz)) 5 ls st h c n := mx_G_eq (tm_Mo_fit zz) r 5 ls st h c n
theorem st_Mo_fit_6 (zz : Nat × Nat) (r : mx_T) (ls : mx_L) (st : List Value) (h : mx_H) (c n : Nat) : mx_G r (t_Mo_fit zz) 6 ls st h c n = (o_aload 1 0) r (mx_G r (t_Mo_fit zz)) 6 ls st h c n := mx_G_eq (tm_Mo_fit zz) r 6 ls st h c n
theorem st_Mo_fit_7 (zz : Nat × Nat) (r : mx_T) (ls : mx_L) (st : List Value) (h : mx_H) (c n : Nat) : mx_G r (t_Mo_fit zz) 7 ls st h c n = (o_get 10 2) r (mx_G r (t_Mo_fit zz)) 7 ls st h c n := mx_G_eq (tm_Mo_fit zz) r 7 ls st h c n
theorem st_Mo_fit_10 (zz : Nat × Nat) (r : mx_T) (ls : mx_L) (st : List Value) (h : mx_H) (c n : Nat) : mx_G r (t_Mo_fit zz) 10 ls st h c n = (o_iload 1 2) r (mx_G r (t_Mo_fit zz)) 10 ls st h c n := mx_G_eq (tm_Mo_fit zz) r 10 ls st h c n
theorem st_Mo_fit_11 (zz : Nat × Nat) (r : mx_T) (ls : mx_L) (st : List Value) (h : mx_H) (c n : Nat) : mx_G r (t_Mo_fit zz) 11 ls st h c n = (o_iald .int) r (mx_G r (t_Mo_fit zz)) 11 ls st h c n := mx_G_eq (tm_Mo_fit zz) r 11 ls st h c n
theorem st_Mo_fit_12 (zz : Nat × Nat) (r : mx_T) (ls : mx_L) (st : List Value) (h : mx_H) (c n : Nat) : mx_G r (t_Mo_fit zz) 12 ls st h c n = (o_icmp 49 (fun x y => x = y)) r (mx_G r (t_Mo_fit zz)) 12 ls st h c n := mx_G_eq (tm_Mo_fit zz) r 12 ls st h c n
theorem st_Mo_fit_15 (zz : Nat × Nat) (r : mx_T) (ls : mx_L) (st : List Value) (h : mx_H) (c n : Nat) : mx_G r (t_Mo_fit zz) 15 ls st h c n = (o_aload 1 0) r (mx_G r (t_Mo_fit zz)) 15 ls st h c n := mx_G_eq (tm_Mo_fit zz) r 15 ls st h c n
theorem st_Mo_fit_16 (zz : Nat × Nat) (r : mx_T) (ls : mx_L) (st : List Value) (h : mx_H) (c n : Nat) : mx_G r (t_Mo_fit zz) 16 ls st h c n = (o_get 10 3) r (mx_G r (t_Mo_fit zz)) 16 ls st h c n := mx_G_eq (tm_Mo_fit zz) r 16 ls st h c n
theorem st_Mo_fit_19 (zz : Nat × Nat) (r : mx_T) (ls : mx_L) (st : List Value) (h : mx_H) (c n : Nat) : mx_G r (t_Mo_fit zz) 19 ls st h c n = (o_iload 1 1) r (mx_G r (t_Mo_fit zz)) 19 ls st h c n := mx_G_eq (tm_Mo_fit zz) r 19 ls st h c n
theorem st_Mo_fit_20 (zz : Nat × Nat) (r : mx_T) (ls : mx_L) (st : List Value) (h : mx_H) (c n : Nat) : mx_G r (t_Mo_fit zz) 20 ls st h c n = (o_iald .int) r (mx_G r (t_Mo_fit zz)) 20 ls st h c n := mx_G_eq (tm_Mo_fit zz) r 20 ls st h c n
theorem st_Mo_fit_21 (zz : Nat × Nat) (r : mx_T) (ls : mx_L) (st : List Value) (h : mx_H) (c n : Nat) : mx_G r (t_Mo_fit zz) 21 ls st h c n = (o_aload 1 0) r (mx_G r (t_Mo_fit zz)) 21 ls st h c n := mx_G_eq (tm_Mo_fit zz) r 21 ls st h c n
theorem st_Mo_fit_22 (zz : Nat × Nat) (r : mx_T) (ls : mx_L) (st : List Value) (h : mx_H) (c n : Nat) : mx_G r (t_Mo_fit zz) 22 ls st h c n = (o_get 10 3) r (mx_G r (t_Mo_fit zz)) 22 ls st h c n := mx_G_eq (tm_Mo_fit zz) r 22 ls st h c n
theorem st_Mo_fit_25 (zz : Nat × Nat) (r : mx_T) (ls : mx_L) (st : List Value) (h : mx_H) (c n : Nat) : mx_G r (t_Mo_fit zz) 25 ls st h c n = (o_iload 1 2) r (mx_G r (t_Mo_fit zz)) 25 ls st h c n := mx_G_eq (tm_Mo_fit zz) r 25 ls st h c n
theorem st_Mo_fit_26 (zz : Nat × Nat) (r : mx_T) (ls : mx_L) (st : List Value) (h : mx_H) (c n : Nat) : mx_G r (t_Mo_fit zz) 26 ls st h c n = (o_iald .int) r (mx_G r (t_Mo_fit zz)) 26 ls st h c n := mx_G_eq (tm_Mo_fit zz) r 26 ls st h c n
theorem st_Mo_fit_27 (zz : Nat × Nat) (r : mx_T) (ls : mx_L) (st : List Value) (h : mx_H) (c n : Nat) : mx_G r (t_Mo_fit zz) 27 ls st h c n = (o_icmp 49 (fun x y => ¬ x = y)) r (mx_G r (t_Mo_fit zz)) 27 ls st h c n := mx_G_eq (tm_Mo_fit zz) r 27 ls st h c n
theorem st_Mo_fit_30 (zz : Nat × Nat) (r : mx_T) (ls : mx_L) (st : List Value) (h : mx_H) (c n : Nat) : mx_G r (t_Mo_fit zz) 30 ls st h c n = (o_aload 1 0) r (mx_G r (t_Mo_fit zz)) 30 ls st h c n := mx_G_eq (tm_Mo_fit zz) r 30 ls st h c n
theorem st_Mo_fit_31 (zz : Nat × Nat) (r : mx_T) (ls : mx_L) (st : List Value) (h : mx_H) (c n : Nat) : mx_G r (t_Mo_fit zz) 31 ls st h c n = (o_get 10 4) r (mx_G r (t_Mo_fit zz)) 31 ls st h c n := mx_G_eq (tm_Mo_fit zz) r 31 ls st h c n
theorem st_Mo_fit_34 (zz : Nat × Nat) (r : mx_T) (ls : mx_L) (st : List Value) (h : mx_H) (c n : Nat) : mx_G r (t_Mo_fit zz) 34 ls st h c n = (o_iload 1 1) r (mx_G r (t_Mo_fit zz)) 34 ls st h c n := mx_G_eq (tm_Mo_fit zz) r 34 ls st h c n
theorem st_Mo_fit_35 (zz : Nat × Nat) (r : mx_T) (ls : mx_L) (st : List Value) (h : mx_H) (c n : Nat) : mx_G r (t_Mo_fit zz) 35 ls st h c n = (o_iald .boolean) r (mx_G r (t_Mo_fit zz)) 35 ls st h c n := mx_G_eq (tm_Mo_fit zz) r 35 ls st h c n
theorem st_Mo_fit_36 (zz : Nat × Nat) (r : mx_T) (ls : mx_L) (st : List Value) (h : mx_H) (c n : Nat) : mx_G r (t_Mo_fit zz) 36 ls st h c n = (o_aload 1 0) r (mx_G r (t_Mo_fit zz)) 36 ls st h c n := mx_G_eq (tm_Mo_fit zz) r 36 ls st h c n
theorem st_Mo_fit_37 (zz : Nat × Nat) (r : mx_T) (ls : mx_L) (st : List Value) (h : mx_H) (c n : Nat) : mx_G r (t_Mo_fit zz) 37 ls st h c n = (o_get 10 4) r (mx_G r (t_Mo_fit zz)) 37 ls st h c n := mx_G_eq (tm_Mo_fit zz) r 37 ls st h c n
theorem st_Mo_fit_40 (zz : Nat × Nat) (r : mx_T) (ls : mx_L) (st : List Value) (h : mx_H) (c n : Nat) : mx_G r (t_Mo_fit zz) 40 ls st h c n = (o_iload 1 2) r (mx_G r (t_Mo_fit zz)) 40 ls st h c n := mx_G_eq (tm_Mo_fit zz) r 40 ls st h c n
theorem st_Mo_fit_41 (zz : Nat × Nat) (r : mx_T) (ls : mx_L) (st : List Value) (h : mx_H) (c n : Nat) : mx_G r (t_Mo_fit zz) 41 ls st h c n = (o_iald .boolean) r (mx_G r (t_Mo_fit zz)) 41 ls st h c n := mx_G_eq (tm_Mo_fit zz) r 41 ls st h c n
theorem st_Mo_fit_42 (zz : Nat × Nat) (r : mx_T) (ls : mx_L) (st : List Value) (h : mx_H) (c n : Nat) : mx_G r (t_Mo_fit zz) 42 ls st h c n = (o_icmp 49 (fun x y => ¬ x = y)) r (mx_G r (t_Mo_fit zz)) 42 ls st h c n := mx_G_eq (tm_Mo_fit zz) r 42 ls st h c n
theorem st_Mo_fit_45 (zz : Nat × Nat) (r : mx_T) (ls : mx_L) (st : List Value) (h : mx_H) (c n : Nat) : mx_G r (t_Mo_fit zz) 45 ls st h c n = (o_push 1 (.int 1)) r (mx_G r (t_Mo_fit zz)) 45 ls st h c n := mx_G_eq (tm_Mo_fit zz) r 45 ls st h c n
theorem st_Mo_fit_46 (zz : Nat × Nat) (r : mx_T) (ls : mx_L) (st : List Value) (h : mx_H) (c n : Nat) : mx_G r (t_Mo_fit zz) 46 ls st h c n = (o_goto 50) r (mx_G r (t_Mo_fit zz)) 46 ls st h c n := mx_G_eq (tm_Mo_fit zz) r 46 ls st h c n
theorem st_Mo_fit_49 (zz : Nat × Nat) (r : mx_T) (ls : mx_L) (st : List Value) (h : mx_H) (c n : Nat) : mx_G r (t_Mo_fit zz) 49 ls st h c n = (o_push 1 (.int 0)) r (mx_G r (t_Mo_fit zz)) 49 ls st h c n := mx_G_eq (tm_Mo_fit zz) r 49 ls st h c n
theorem st_Mo_fit_50 (zz : Nat × Nat) (r : mx_T) (ls : mx_L) (st : List Value) (h : mx_H) (c n : Nat) : mx_G r (t_Mo_fit zz) 50 ls st h c n = (o_zret) r (mx_G r (t_Mo_fit zz)) 50 ls st h c n := mx_G_eq (tm_Mo_fit zz) r 50 ls st h c n
theorem d_Mo_event_0 : decode c_Mo_event 0 = .ok (.iload 4, 2) := by decide +kernel
theorem d_Mo_event_2 : decode c_Mo_event 2 = .ok (.iconst (-1), 1) := by decide +kernel
theorem d_Mo_event_3 : decode c_Mo_event 3 = .ok (.if_icmp .eq 7, 3) := by decide +kernel
theorem d_Mo_event_6 : decode c_Mo_event 6 = .ok (.iconst 1, 1) := by decide +kernel
theorem d_Mo_event_7 : decode c_Mo_event 7 = .ok (.goto 4, 3) := by decide +kernel
theorem d_Mo_event_10 : decode c_Mo_event 10 = .ok (.iconst 0, 1) := by decide +kernel
theorem d_Mo_event_11 : decode c_Mo_event 11 = .ok (.istore 6, 2) := by decide +kernel
theorem d_Mo_event_13 : decode c_Mo_event 13 = .ok (.aload_n 0, 1) := by decide +kernel
theorem d_Mo_event_14 : decode c_Mo_event 14 = .ok (.getfield 87, 3) := by decide +kernel
theorem d_Mo_event_17 : decode c_Mo_event 17 = .ok (.ifCond .ne 39, 3) := by decide +kernel
theorem d_Mo_event_20 : decode c_Mo_event 20 = .ok (.aload_n 0, 1) := by decide +kernel
theorem d_Mo_event_21 : decode c_Mo_event 21 = .ok (.getfield 84, 3) := by decide +kernel
theorem d_Mo_event_24 : decode c_Mo_event 24 = .ok (.iconst 2, 1) := by decide +kernel
theorem d_Mo_event_25 : decode c_Mo_event 25 = .ok (.if_icmp .eq 31, 3) := by decide +kernel
theorem d_Mo_event_28 : decode c_Mo_event 28 = .ok (.iload_n 1, 1) := by decide +kernel
theorem d_Mo_event_29 : decode c_Mo_event 29 = .ok (.iconst 0, 1) := by decide +kernel
theorem d_Mo_event_30 : decode c_Mo_event 30 = .ok (.bipush 59, 2) := by decide +kernel
theorem d_Mo_event_32 : decode c_Mo_event 32 = .ok (.invokestatic 91, 3) := by decide +kernel
theorem d_Mo_event_35 : decode c_Mo_event 35 = .ok (.ifCond .eq 21, 3) := by decide +kernel
theorem d_Mo_event_38 : decode c_Mo_event 38 = .ok (.aload_n 0, 1) := by decide +kernel
theorem d_Mo_event_39 : decode c_Mo_event 39 = .ok (.iload_n 1, 1) := by decide +kernel
theorem d_Mo_event_40 : decode c_Mo_event 40 = .ok (.invokevirtual 95, 3) := by decide +kernel
theorem d_Mo_event_43 : decode c_Mo_event 43 = .ok (.ifCond .ne 13, 3) := by decide +kernel
theorem d_Mo_event_46 : decode c_Mo_event 46 = .ok (.iload 5, 2) := by decide +kernel
theorem d_Mo_event_48 : decode c_Mo_event 48 = .ok (.iconst 0, 1) := by decide +kernel
theorem d_Mo_event_49 : decode c_Mo_event 49 = .ok (.iconst 2, 1) := by decide +kernel
theorem d_Mo_event_50 : decode c_Mo_event 50 = .ok (.invokestatic 91, 3) := by decide +kernel
theorem d_Mo_event_53 : decode c_Mo_event 53 = .ok (.ifCond .ne 5, 3) := by decide +kernel
theorem d_Mo_event_56 : decode c_Mo_event 56 = .ok (.iconst (-1), 1) := by decide +kernel
theorem d_Mo_event_57 : decode c_Mo_event 57 = .ok (.ireturn, 1) := by decide +kernel
theorem d_Mo_event_58 : decode c_Mo_event 58 = .ok (.aload_n 0, 1) := by decide +kernel
theorem d_Mo_event_59 : decode c_Mo_event 59 = .ok (.iload_n 2, 1) := by decide +kernel
theorem d_Mo_event_60 : decode c_Mo_event 60 = .ok (.invokevirtual 115, 3) := by decide +kernel
theorem d_Mo_event_63 : decode c_Mo_event 63 = .ok (.ifCond .eq 34, 3) := by decide +kernel
theorem d_Mo_event_66 : decode c_Mo_event 66 = .ok (.aload_n 0, 1) := by decide +kernel
theorem d_Mo_event_67 : decode c_Mo_event 67 = .ok (.iload_n 3, 1) := by decide +kernel
theorem d_Mo_event_68 : decode c_Mo_event 68 = .ok (.invokevirtual 115, 3) := by decide +kernel
theorem d_Mo_event_71 : decode c_Mo_event 71 = .ok (.ifCond .eq 26, 3) := by decide +kernel
theorem d_Mo_event_74 : decode c_Mo_event 74 = .ok (.iload 6, 2) := by decide +kernel
theorem d_Mo_event_76 : decode c_Mo_event 76 = .ok (.ifCond .eq 12, 3) := by decide +kernel
theorem d_Mo_event_79 : decode c_Mo_event 79 = .ok (.aload_n 0, 1) := by decide +kernel
theorem d_Mo_event_80 : decode c_Mo_event 80 = .ok (.iload 4, 2) := by decide +kernel
theorem d_Mo_event_82 : decode c_Mo_event 82 = .ok (.invokevirtual 115, 3) := by decide +kernel
theorem d_Mo_event_85 : decode c_Mo_event 85 = .ok (.ifCond .eq 12, 3) := by decide +kernel
theorem d_Mo_event_88 : decode c_Mo_event 88 = .ok (.aload_n 0, 1) := by decide +kernel
theorem d_Mo_event_89 : decode c_Mo_event 89 = .ok (.iload_n 2, 1) := by decide +kernel
theorem d_Mo_event_90 : decode c_Mo_event 90 = .ok (.iload_n 3, 1) := by decide +kernel
theorem d_Mo_event_91 : decode c_Mo_event 91 = .ok (.invokevirtual 118, 3) := by decide +kernel
theorem d_Mo_event_94 : decode c_Mo_event 94 = .ok (.ifCond .ne 5, 3) := by decide +kernel
theorem d_Mo_event_97 : decode c_Mo_event 97 = .ok (.iconst (-1), 1) := by decide +kernel
theorem d_Mo_event_98 : decode c_Mo_event 98 = .ok (.ireturn, 1) := by decide +kernel
theorem d_Mo_event_99 : decode c_Mo_event 99 = .ok (.iload 6, 2) := by decide +kernel
theorem d_Mo_event_101 : decode c_Mo_event 101 = .ok (.ifCond .eq 25, 3) := by decide +kernel
theorem d_Mo_event_104 : decode c_Mo_event 104 = .ok (.aload_n 0, 1) := by decide +kernel
theorem d_Mo_event_105 : decode c_Mo_event 105 = .ok (.iload_n 2, 1) := by decide +kernel
theorem d_Mo_event_106 : decode c_Mo_event 106 = .ok (.iload 4, 2) := by decide +kernel
theorem d_Mo_event_108 : decode c_Mo_event 108 = .ok (.invokevirtual 118, 3) := by decide +kernel
theorem d_Mo_event_111 : decode c_Mo_event 111 = .ok (.ifCond .eq 13, 3) := by decide +kernel
theorem d_Mo_event_114 : decode c_Mo_event 114 = .ok (.aload_n 0, 1) := by decide +kernel
theorem d_Mo_event_115 : decode c_Mo_event 115 = .ok (.iload_n 3, 1) := by decide +kernel
theorem d_Mo_event_116 : decode c_Mo_event 116 = .ok (.iload 4, 2) := by decide +kernel
theorem d_Mo_event_118 : decode c_Mo_event 118 = .ok (.invokevirtual 118, 3) := by decide +kernel
theorem d_Mo_event_121 : decode c_Mo_event 121 = .ok (.ifCond .ne 5, 3) := by decide +kernel
theorem d_Mo_event_124 : decode c_Mo_event 124 = .ok (.iconst (-1), 1) := by decide +kernel
theorem d_Mo_event_125 : decode c_Mo_event 125 = .ok (.ireturn, 1) := by decide +kernel
theorem d_Mo_event_126 : decode c_Mo_event 126 = .ok (.aload_n 0, 1) := by decide +kernel
theorem d_Mo_event_127 : decode c_Mo_event 127 = .ok (.getfield 50, 3) := by decide +kernel
theorem d_Mo_event_130 : decode c_Mo_event 130 = .ok (.aload_n 0, 1) := by decide +kernel
theorem d_Mo_event_131 : decode c_Mo_event 131 = .ok (.getfield 84, 3) := by decide +kernel
theorem d_Mo_event_134 : decode c_Mo_event 134 = .ok (.iload_n 1, 1) := by decide +kernel
theorem d_Mo_event_135 : decode c_Mo_event 135 = .ok (.iastore, 1) := by decide +kernel
theorem d_Mo_event_136 : decode c_Mo_event 136 = .ok (.aload_n 0, 1) := by decide +kernel
theorem d_Mo_event_137 : decode c_Mo_event 137 = .ok (.getfield 56, 3) := by decide +kernel
theorem d_Mo_event_140 : decode c_Mo_event 140 = .ok (.aload_n 0, 1) := by decide +kernel
theorem d_Mo_event_141 : decode c_Mo_event 141 = .ok (.getfield 84, 3) := by decide +kernel
theorem d_Mo_event_144 : decode c_Mo_event 144 = .ok (.iload 5, 2) := by decide +kernel
theorem d_Mo_event_146 : decode c_Mo_event 146 = .ok (.iastore, 1) := by decide +kernel
theorem d_Mo_event_147 : decode c_Mo_event 147 = .ok (.aload_n 0, 1) := by decide +kernel
theorem d_Mo_event_148 : decode c_Mo_event 148 = .ok (.getfield 53, 3) := by decide +kernel
theorem d_Mo_event_151 : decode c_Mo_event 151 = .ok (.iconst 3, 1) := by decide +kernel
theorem d_Mo_event_152 : decode c_Mo_event 152 = .ok (.aload_n 0, 1) := by decide +kernel
theorem d_Mo_event_153 : decode c_Mo_event 153 = .ok (.getfield 84, 3) := by decide +kernel
theorem d_Mo_event_156 : decode c_Mo_event 156 = .ok (.imul, 1) := by decide +kernel
theorem d_Mo_event_157 : decode c_Mo_event 157 = .ok (.iload_n 2, 1) := by decide +kernel
theorem d_Mo_event_158 : decode c_Mo_event 158 = .ok (.iastore, 1) := by decide +kernel
theorem d_Mo_event_159 : decode c_Mo_event 159 = .ok (.aload_n 0, 1) := by decide +kernel
theorem d_Mo_event_160 : decode c_Mo_event 160 = .ok (.getfield 53, 3) := by decide +kernel
theorem d_Mo_event_163 : decode c_Mo_event 163 = .ok (.iconst 3, 1) := by decide +kernel
theorem d_Mo_event_164 : decode c_Mo_event 164 = .ok (.aload_n 0, 1) := by decide +kernel
theorem d_Mo_event_165 : decode c_Mo_event 165 = .ok (.getfield 84, 3) := by decide +kernel
theorem d_Mo_event_168 : decode c_Mo_event 168 = .ok (.imul, 1) := by decide +kernel
theorem d_Mo_event_169 : decode c_Mo_event 169 = .ok (.iconst 1, 1) := by decide +kernel
theorem d_Mo_event_170 : decode c_Mo_event 170 = .ok (.iadd, 1) := by decide +kernel
theorem d_Mo_event_171 : decode c_Mo_event 171 = .ok (.iload_n 3, 1) := by decide +kernel
theorem d_Mo_event_172 : decode c_Mo_event 172 = .ok (.iastore, 1) := by decide +kernel
theorem d_Mo_event_173 : decode c_Mo_event 173 = .ok (.aload_n 0, 1) := by decide +kernel
theorem d_Mo_event_174 : decode c_Mo_event 174 = .ok (.getfield 53, 3) := by decide +kernel
theorem d_Mo_event_177 : decode c_Mo_event 177 = .ok (.iconst 3, 1) := by decide +kernel
theorem d_Mo_event_178 : decode c_Mo_event 178 = .ok (.aload_n 0, 1) := by decide +kernel
theorem d_Mo_event_179 : decode c_Mo_event 179 = .ok (.getfield 84, 3) := by decide +kernel
theorem d_Mo_event_182 : decode c_Mo_event 182 = .ok (.imul, 1) := by decide +kernel
theorem d_Mo_event_183 : decode c_Mo_event 183 = .ok (.iconst 2, 1) := by decide +kernel
theorem d_Mo_event_184 : decode c_Mo_event 184 = .ok (.iadd, 1) := by decide +kernel
theorem d_Mo_event_185 : decode c_Mo_event 185 = .ok (.iload 4, 2) := by decide +kernel
theorem d_Mo_event_187 : decode c_Mo_event 187 = .ok (.iastore, 1) := by decide +kernel
theorem d_Mo_event_188 : decode c_Mo_event 188 = .ok (.aload_n 0, 1) := by decide +kernel
theorem d_Mo_event_189 : decode c_Mo_event 189 = .ok (.dup, 1) := by decide +kernel
theorem d_Mo_event_190 : decode c_Mo_event 190 = .ok (.getfield 84, 3) := by decide +kernel
theorem d_Mo_event_193 : decode c_Mo_event 193 = .ok (.iconst 1, 1) := by decide +kernel
theorem d_Mo_event_194 : decode c_Mo_event 194 = .ok (.iadd, 1) := by decide +kernel
theorem d_Mo_event_195 : decode c_Mo_event 195 = .ok (.putfield 84, 3) := by decide +kernel
theorem d_Mo_event_198 : decode c_Mo_event 198 = .ok (.aload_n 0, 1) := by decide +kernel
theorem d_Mo_event_199 : decode c_Mo_event 199 = .ok (.getfield 26, 3) := by decide +kernel
theorem d_Mo_event_202 : decode c_Mo_event 202 = .ok (.iload_n 2, 1) := by decide +kernel
theorem d_Mo_event_203 : decode c_Mo_event 203 = .ok (.aload_n 0, 1) := by decide +kernel
theorem d_Mo_event_204 : decode c_Mo_event 204 = .ok (.getfield 84, 3) := by decide +kernel
theorem d_Mo_event_207 : decode c_Mo_event 207 = .ok (.iastore, 1) := by decide +kernel
theorem d_Mo_event_208 : decode c_Mo_event 208 = .ok (.aload_n 0, 1) := by decide +kernel
theorem d_Mo_event_209 : decode c_Mo_event 209 = .ok (.getfield 26, 3) := by decide +kernel
theorem d_Mo_event_212 : decode c_Mo_event 212 = .ok (.iload_n 3, 1) := by decide +kernel
theorem d_Mo_event_213 : decode c_Mo_event 213 = .ok (.aload_n 0, 1) := by decide +kernel
theorem d_Mo_event_214 : decode c_Mo_event 214 = .ok (.getfield 84, 3) := by decide +kernel
theorem d_Mo_event_217 : decode c_Mo_event 217 = .ok (.iastore, 1) := by decide +kernel
theorem d_Mo_event_218 : decode c_Mo_event 218 = .ok (.iload 6, 2) := by decide +kernel
theorem d_Mo_event_220 : decode c_Mo_event 220 = .ok (.ifCond .eq 14, 3) := by decide +kernel
theorem d_Mo_event_223 : decode c_Mo_event 223 = .ok (.aload_n 0, 1) := by decide +kernel
theorem d_Mo_event_224 : decode c_Mo_event 224 = .ok (.getfield 26, 3) := by decide +kernel
theorem d_Mo_event_227 : decode c_Mo_event 227 = .ok (.iload 4, 2) := by decide +kernel
theorem d_Mo_event_229 : decode c_Mo_event 229 = .ok (.aload_n 0, 1) := by decide +kernel
theorem d_Mo_event_230 : decode c_Mo_event 230 = .ok (.getfield 84, 3) := by decide +kernel
theorem d_Mo_event_233 : decode c_Mo_event 233 = .ok (.iastore, 1) := by decide +kernel
theorem d_Mo_event_234 : decode c_Mo_event 234 = .ok (.aload_n 0, 1) := by decide +kernel
theorem d_Mo_event_235 : decode c_Mo_event 235 = .ok (.getfield 84, 3) := by decide +kernel
theorem d_Mo_event_238 : decode c_Mo_event 238 = .ok (.iconst 1, 1) := by decide +kernel
theorem d_Mo_event_239 : decode c_Mo_event 239 = .ok (.isub, 1) := by decide +kernel
theorem d_Mo_event_240 : decode c_Mo_event 240 = .ok (.ireturn, 1) := by decide +kernel
def t_Mo_event (zz : Nat × Nat) : List (Nat × mx_O) := [(0, o_iload 2 4),
  (2, o_push 1 (.int (-1))),
  (3, o_icmp 10 (fun x y => x = y)),
  (6, o_push 1 (.int 1)),
  (7, o_goto 11),
  (10, o_push 1 (.int 0)),
  (11, o_istore 2 6),
  (13, o_aload 1 0),
  (14, o_get 10 24),
  (17, o_if 56 (fun x => ¬ x = 0)),
  (20, o_aload 1 0),
  (21, o_get 10 16),
  (24, o_push 1 (.int 2)),
  (25, o_icmp 56 (fun x y => x = y)),
  (28, o_iload 1 1),
  (29, o_push 1 (.int 0)),
  (30, o_push 2 (.int 59)),
  (32, o_call 0 0 3 0 0 (fun _ _ => True) (S_Mo_within zz)),
  (35, o_if 56 (fun x => x = 0)),
  (38, o_aload 1 0),
  (39, o_iload 1 1),
  (40, o_call 0 0 2 0 0 (mx_rv 10) (S_Mo_taken zz)),
  (43, o_if 56 (fun x => ¬ x = 0)),
  (46, o_iload 2 5),
  (48, o_push 1 (.int 0)),
  (49, o_push 1 (.int 2)),
  (50, o_call 0 0 3 0 0 (fun _ _ => True) (S_Mo_within zz)),
  (53, o_if 58 (fun x => ¬ x = 0)),
  (56, o_push 1 (.int (-1))),
  (57, o_iret),
  (58, o_aload 1 0),
  (59, o_iload 1 2),
  (60, o_call 0 0 2 0 0 (mx_rv 10) (S_Mo_free zz)),
  (63, o_if 97 (fun x => x = 0)),
  (66, o_aload 1 0),
  (67, o_iload 1 3),
  (68, o_call 0 0 2 0 0 (mx_rv 10) (S_Mo_free zz)),
  (71, o_if 97 (fun x => x = 0)),
  (74, o_iload 2 6),
  (76, o_if 88 (fun x => x = 0)),
  (79, o_aload 1 0),
  (80, o_iload 2 4),
  (82, o_call 0 0 2 0 0 (mx_rv 10) (S_Mo_free zz)),
  (85, o_if 97 (fun x => x = 0)),
  (88, o_aload 1 0),
  (89, o_iload 1 2),
  (90, o_iload 1 3),
  (91, o_call 0 0 3 0 0 (mx_rv 10) (S_Mo_fit zz)),
  (94, o_if 99 (fun x => ¬ x = 0)),
  (97, o_push 1 (.int (-1))),
  (98, o_iret),
  (99, o_iload 2 6),
  (101, o_if 126 (fun x => x = 0)),
  (104, o_aload 1 0),
  (105, o_iload 1 2),
  (106, o_iload 2 4),
  (108, o_call 0 0 3 0 0 (mx_rv 10) (S_Mo_fit zz)),
  (111, o_if 124 (fun x => x = 0)),
  (114, o_aload 1 0),
  (115, o_iload 1 3),
  (116, o_iload 2 4),
  (118, o_call 0 0 3 0 0 (mx_rv 10) (S_Mo_fit zz)),
  (121, o_if 126 (fun x => ¬ x = 0)),
  (124, o_push 1 (.int (-1))),
  (125, o_iret),
  (126, o_aload 1 0),
  (127, o_get 10 17),
  (130, o_aload 1 0),
  (131, o_get 10 16),
  (134, o_iload 1 1),
  (135, o_iast .int (fun x => x)),
  (136, o_aload 1 0),
  (137, o_get 10 19),
  (140, o_aload 1 0),
  (141, o_get 10 16),
  (144, o_iload 2 5),
  (146, o_iast .int (fun x => x)),
  (147, o_aload 1 0),
  (148, o_get 10 18),
  (151, o_push 1 (.int 3)),
  (152, o_aload 1 0),
  (153, o_get 10 16),
  (156, o_ii (fun x y => x * y)),
  (157, o_iload 1 2),
  (158, o_iast .int (fun x => x)),
  (159, o_aload 1 0),
  (160, o_get 10 18),
  (163, o_push 1 (.int 3)),
  (164, o_aload 1 0),
  (165, o_get 10 16),
  (168, o_ii (fun x y => x * y)),
  (169, o_push 1 (.int 1)),
  (170, o_ii (fun x y => x + y)),
  (171, o_iload 1 3),
  (172, o_iast .int (fun x => x)),
  (173, o_aload 1 0),
  (174, o_get 10 18),
  (177, o_push 1 (.int 3)),
  (178, o_aload 1 0),
  (179, o_get 10 16),
  (182, o_ii (fun x y => x * y)),
  (183, o_push 1 (.int 2)),
  (184, o_ii (fun x y => x + y)),
  (185, o_iload 2 4),
  (187, o_iast .int (fun x => x)),
  (188, o_aload 1 0),
  (189, o_dup),
  (190, o_get 10 16),
  (193, o_push 1 (.int 1)),
  (194, o_ii (fun x y => x + y)),
  (195, o_put 10 16 mx_vI),
  (198, o_aload 1 0),
  (199, o_get 10 6),
  (202, o_iload 1 2),
  (203, o_aload 1 0),
  (204, o_get 10 16),
  (207, o_iast .int (fun x => x)),
  (208, o_aload 1 0),
  (209, o_get 10 6),
  (212, o_iload 1 3),
  (213, o_aload 1 0),
  (214, o_get 10 16),
  (217, o_iast .int (fun x => x)),
  (218, o_iload 2 6),
  (220, o_if 234 (fun x => x = 0)),
  (223, o_aload 1 0),
  (224, o_get 10 6),
  (227, o_iload 2 4),
  (229, o_aload 1 0),
  (230, o_get 10 16),
  (233, o_iast .int (fun x => x)),
  (234, o_aload 1 0),
  (235, o_get 10 16),
  (238, o_push 1 (.int 1)),
  (239, o_ii (fun x y => x - y)),
  (240, o_iret)]
set_option maxRecDepth 100000 in
theorem tm_Mo_event (zz : Nat × Nat) : mx_All (fun _ o => mx_Mono o) (t_Mo_event zz) := by
  refine mx_all_cons (mo_st) ?_
  refine mx_all_cons (mo_st) ?_
  refine mx_all_cons (mo_br) ?_
  refine mx_all_cons (mo_st) ?_
  refine mx_all_cons (mo_st) ?_
  refine mx_all_cons (mo_st) ?_
  refine mx_all_cons (mo_st) ?_
  refine mx_all_cons (mo_st) ?_
  refine mx_all_cons (mo_st) ?_
  refine mx_all_cons (mo_br) ?_
  refine mx_all_cons (mo_st) ?_
  refine mx_all_cons (mo_st) ?_
  refine mx_all_cons (mo_st) ?_
  refine mx_all_cons (mo_br) ?_
  refine mx_all_cons (mo_st) ?_
  refine mx_all_cons (mo_st) ?_
  refine mx_all_cons (mo_st) ?_
  refine mx_all_cons (mo_call (sm_Mo_within zz)) ?_
  refine mx_all_cons (mo_br) ?_
  refine mx_all_cons (mo_st) ?_
  refine mx_all_cons (mo_st) ?_
  refine mx_all_cons (mo_call (sm_Mo_taken zz)) ?_
  refine mx_all_cons (mo_br) ?_
  refine mx_all_cons (mo_st) ?_
  refine mx_all_cons (mo_st) ?_
  refine mx_all_cons (mo_st) ?_
  refine mx_all_cons (mo_call (sm_Mo_within zz)) ?_
  refine mx_all_cons (mo_br) ?_
  refine mx_all_cons (mo_st) ?_
  refine mx_all_cons (mo_ret) ?_
  refine mx_all_cons (mo_st) ?_
  refine mx_all_cons (mo_st) ?_
  refine mx_all_cons (mo_call (sm_Mo_free zz)) ?_
  refine mx_all_cons (mo_br) ?_
  refine mx_all_cons (mo_st) ?_
  refine mx_all_cons (mo_st) ?_
  refine mx_all_cons (mo_call (sm_Mo_free zz)) ?_
  refine mx_all_cons (mo_br) ?_
  refine mx_all_cons (mo_st) ?_
  refine mx_all_cons (mo_br) ?_
  refine mx_all_cons (mo_st) ?_
  refine mx_all_cons (mo_st) ?_
  refine mx_all_cons (mo_call (sm_Mo_free zz)) ?_
  refine mx_all_cons (mo_br) ?_
  refine mx_all_cons (mo_st) ?_
  refine mx_all_cons (mo_st) ?_
  refine mx_all_cons (mo_st) ?_
  refine mx_all_cons (mo_call (sm_Mo_fit zz)) ?_
  refine mx_all_cons (mo_br) ?_
  refine mx_all_cons (mo_st) ?_
  refine mx_all_cons (mo_ret) ?_
  refine mx_all_cons (mo_st) ?_
  refine mx_all_cons (mo_br) ?_
  refine mx_all_cons (mo_st) ?_
  refine mx_all_cons (mo_st) ?_
  refine mx_all_cons (mo_st) ?_
  refine mx_all_cons (mo_call (sm_Mo_fit zz)) ?_
  refine mx_all_cons (mo_br) ?_
  refine mx_all_cons (mo_st) ?_
  refine mx_all_cons (mo_st) ?_
  refine mx_all_cons (mo_st) ?_
  refine mx_all_cons (mo_call (sm_Mo_fit zz)) ?_
  refine mx_all_cons (mo_br) ?_
  refine mx_all_cons (mo_st) ?_
  refine mx_all_cons (mo_ret) ?_
  refine mx_all_cons (mo_st) ?_
  refine mx_all_cons (mo_st) ?_
  refine mx_all_cons (mo_st) ?_
  refine mx_all_cons (mo_st) ?_
  refine mx_all_cons (mo_st) ?_
  refine mx_all_cons (mo_sc) ?_
  refine mx_all_cons (mo_st) ?_
  refine mx_all_cons (mo_st) ?_
  refine mx_all_cons (mo_st) ?_
  refine mx_all_cons (mo_st) ?_
  refine mx_all_cons (mo_st) ?_
  refine mx_all_cons (mo_sc) ?_
  refine mx_all_cons (mo_st) ?_
  refine mx_all_cons (mo_st) ?_
  refine mx_all_cons (mo_st) ?_
  refine mx_all_cons (mo_st) ?_
  refine mx_all_cons (mo_st) ?_
  refine mx_all_cons (mo_st) ?_
  refine mx_all_cons (mo_st) ?_
  refine mx_all_cons (mo_sc) ?_
  refine mx_all_cons (mo_st) ?_
  refine mx_all_cons (mo_st) ?_
  refine mx_all_cons (mo_st) ?_
  refine mx_all_cons (mo_st) ?_
  refine mx_all_cons (mo_st) ?_
  refine mx_all_cons (mo_st) ?_
  refine mx_all_cons (mo_st) ?_
  refine mx_all_cons (mo_st) ?_
  refine mx_all_cons (mo_st) ?_
  refine mx_all_cons (mo_sc) ?_
  refine mx_all_cons (mo_st) ?_
  refine mx_all_cons (mo_st) ?_
  refine mx_all_cons (mo_st) ?_
  refine mx_all_cons (mo_st) ?_
  refine mx_all_cons (mo_st) ?_
  refine mx_all_cons (mo_st) ?_
  refine mx_all_cons (mo_st) ?_
  refine mx_all_cons (mo_st) ?_
  refine mx_all_cons (mo_st) ?_
  refine mx_all_cons (mo_sc) ?_
  refine mx_all_cons (mo_st) ?_
  refine mx_all_cons (mo_st) ?_
  refine mx_all_cons (mo_st) ?_
  refine mx_all_cons (mo_st) ?_
  refine mx_all_cons (mo_st) ?_
  refine mx_all_cons (mo_sc) ?_
  refine mx_all_cons (mo_st) ?_
  refine mx_all_cons (mo_st) ?_
  refine mx_all_cons (mo_st) ?_
  refine mx_all_cons (mo_st) ?_
  refine mx_all_cons (mo_st) ?_
  refine mx_all_cons (mo_sc) ?_
  refine mx_all_cons (mo_st) ?_
  refine mx_all_cons (mo_st) ?_
  refine mx_all_cons (mo_st) ?_
  refine mx_all_cons (mo_st) ?_
  refine mx_all_cons (mo_st) ?_
  refine mx_all_cons (mo_sc) ?_
  refine mx_all_cons (mo_st) ?_
  refine mx_all_cons (mo_br) ?_
  refine mx_all_cons (mo_st) ?_
  refine mx_all_cons (mo_st) ?_
  refine mx_all_cons (mo_st) ?_
  refine mx_all_cons (mo_st) ?_
  refine mx_all_cons (mo_st) ?_
  refine mx_all_cons (mo_sc) ?_
  refine mx_all_cons (mo_st) ?_
  refine mx_all_cons (mo_st) ?_
  refine mx_all_cons (mo_st) ?_
  refine mx_all_cons (mo_st) ?_
  refine mx_all_cons (mo_ret) ?_
  exact mx_all_nil
def S_Mo_event (zz : Nat × Nat) : mx_Sp := mx_S 7 0 0 (t_Mo_event zz)
theorem sm_Mo_event (zz : Nat × Nat) : mx_SMono (S_Mo_event zz) := mx_S_mono (tm_Mo_event zz)
abbrev rm_Mo_event : Room := { frames := 3, cells := 0, slots := 0, locals := 69 }
set_option maxHeartbeats 4000000 in
set_option maxRecDepth 100000 in
theorem m_Mo_event (l : Launch) (zz : Nat × Nat) : mx_Met l y_Mo_event (wsOf y_Mo_event c_Mo_event 7 (some .int)) rm_Mo_event wcl (mx_Z zz) 0 0 (S_Mo_event zz) := by
  refine mx_met (cc := c_Mo_event) (ret := (some .int)) (by decide) rfl ?_
  intro p e s m args below meth c D A Post X hz hr hlk hnm
  have hm : ∀ w ∈ mw, w.before args s = true := fun w h => X.1.2.2.2.2 w (List.mem_cons_of_mem _ h)
  refine mx_all_cons (ok_iload (fun hl kk => lv_iload X.1.1 X.1.2.1 d_Mo_event_0 hl kk)) ?_
  refine mx_all_cons (ok_push (fun kk => lv_iconst X.1.1 X.1.2.1 d_Mo_event_2 (by decide) kk)) ?_
  refine mx_all_cons (ok_icmp (fun kt kf => lv_icmp_eq X.1.1 X.1.2.1 d_Mo_event_3 (by decide) kt kf)) ?_
  refine mx_all_cons (ok_push (fun kk => lv_iconst X.1.1 X.1.2.1 d_Mo_event_6 (by decide) kk)) ?_
  refine mx_all_cons (ok_goto X d_Mo_event_7 (by decide)) ?_
  refine mx_all_cons (ok_push (fun kk => lv_iconst X.1.1 X.1.2.1 d_Mo_event_10 (by decide) kk)) ?_
  refine mx_all_cons (ok_istore (fun hl kk => lv_istore X.1.1 X.1.2.1 d_Mo_event_11 hl (by decide) rfl kk)) ?_
  refine mx_all_cons (ok_aload (fun hl kk => lv_aload_n X.1.1 X.1.2.1 d_Mo_event_13 rfl hl kk) (fun hl kk => lv_aload_nN X.1.1 X.1.2.1 d_Mo_event_13 rfl hl kk)) ?_
  refine mx_all_cons (ok_get (C := "HeaderScheduleModel") (T := T_Mo) (N := 40) X (mw_up in_Mo) rfl 24 (by decide) (hm _ w701) (fun _ h9 => h9) d_Mo_event_14) ?_
  refine mx_all_cons (ok_if (fun kt kf => lv_if_ne X.1.1 X.1.2.1 d_Mo_event_17 (by decide) kt (fun z => kf (fun g => g z)))) ?_
  refine mx_all_cons (ok_aload (fun hl kk => lv_aload_n X.1.1 X.1.2.1 d_Mo_event_20 rfl hl kk) (fun hl kk => lv_aload_nN X.1.1 X.1.2.1 d_Mo_event_20 rfl hl kk)) ?_
  refine mx_all_cons (ok_get (C := "HeaderScheduleModel") (T := T_Mo) (N := 40) X (mw_up in_Mo) rfl 16 (by decide) (hm _ w693) (fun _ h9 => h9) d_Mo_event_21) ?_
  refine mx_all_cons (ok_push (fun kk => lv_iconst X.1.1 X.1.2.1 d_Mo_event_24 (by decide) kk)) ?_
  refine mx_all_cons (ok_icmp (fun kt kf => lv_icmp_eq X.1.1 X.1.2.1 d_Mo_event_25 (by decide) kt kf)) ?_
  refine mx_all_cons (ok_iload (fun hl kk => lv_iload_n X.1.1 X.1.2.1 d_Mo_event_28 rfl hl kk)) ?_
  refine mx_all_cons (ok_push (fun kk => lv_iconst X.1.1 X.1.2.1 d_Mo_event_29 (by decide) kk)) ?_
  refine mx_all_cons (ok_push (fun kk => lv_bipush X.1.1 X.1.2.1 d_Mo_event_30 (by decide) kk)) ?_
  refine mx_all_cons (ok_callS X (mx_Zok_Z zz) hz ⟨(Nat.le_of_ble_eq_true rfl), (Nat.le_of_ble_eq_true rfl)⟩ (m_Mo_within l zz) ⟨mx_cwB 3 hm w804 w802 w40 rfl rfl (by decide +kernel) ⟨(Nat.le_of_ble_eq_true rfl), (Nat.le_of_ble_eq_true rfl)⟩, (hm _ w803)⟩ d_Mo_event_32) ?_
  refine mx_all_cons (ok_if (fun kt kf => lv_if_eq X.1.1 X.1.2.1 d_Mo_event_35 (by decide) kt kf)) ?_
  refine mx_all_cons (ok_aload (fun hl kk => lv_aload_n X.1.1 X.1.2.1 d_Mo_event_38 rfl hl kk) (fun hl kk => lv_aload_nN X.1.1 X.1.2.1 d_Mo_event_38 rfl hl kk)) ?_
  refine mx_all_cons (ok_iload (fun hl kk => lv_iload_n X.1.1 X.1.2.1 d_Mo_event_39 rfl hl kk)) ?_
  refine mx_all_cons (ok_callV (C := "HeaderScheduleModel") (T := T_Mo) (N := 40) X (mx_Zok_Z zz) hz ⟨(Nat.le_of_ble_eq_true rfl), (Nat.le_of_ble_eq_true rfl)⟩ (m_Mo_taken l zz) ⟨mx_cwB 1 hm w808 w805 w40 rfl rfl (by decide +kernel) ⟨(Nat.le_of_ble_eq_true rfl), (Nat.le_of_ble_eq_true rfl)⟩, (hm _ w807), hm _ w16⟩ rfl d_Mo_event_40) ?_
  refine mx_all_cons (ok_if (fun kt kf => lv_if_ne X.1.1 X.1.2.1 d_Mo_event_43 (by decide) kt (fun z => kf (fun g => g z)))) ?_
  refine mx_all_cons (ok_iload (fun hl kk => lv_iload X.1.1 X.1.2.1 d_Mo_event_46 hl kk)) ?_
  refine mx_all_cons (ok_push (fun kk => lv_iconst X.1.1 X.1.2.1 d_Mo_event_48 (by decide) kk)) ?_
  refine mx_all_cons (ok_push (fun kk => lv_iconst X.1.1 X.1.2.1 d_Mo_event_49 (by decide) kk)) ?_
  refine mx_all_cons (ok_callS X (mx_Zok_Z zz) hz ⟨(Nat.le_of_ble_eq_true rfl), (Nat.le_of_ble_eq_true rfl)⟩ (m_Mo_within l zz) ⟨mx_cwB 3 hm w804 w802 w40 rfl rfl (by decide +kernel) ⟨(Nat.le_of_ble_eq_true rfl), (Nat.le_of_ble_eq_true rfl)⟩, (hm _ w803)⟩ d_Mo_event_50) ?_
  refine mx_all_cons (ok_if (fun kt kf => lv_if_ne X.1.1 X.1.2.1 d_Mo_event_53 (by decide) kt (fun z => kf (fun g => g z)))) ?_
  refine mx_all_cons (ok_push (fun kk => lv_iconst X.1.1 X.1.2.1 d_Mo_event_56 (by decide) kk)) ?_
  refine mx_all_cons (ok_iret X hr hlk d_Mo_event_57) ?_
  refine mx_all_cons (ok_aload (fun hl kk => lv_aload_n X.1.1 X.1.2.1 d_Mo_event_58 rfl hl kk) (fun hl kk => lv_aload_nN X.1.1 X.1.2.1 d_Mo_event_58 rfl hl kk)) ?_
  refine mx_all_cons (ok_iload (fun hl kk => lv_iload_n X.1.1 X.1.2.1 d_Mo_event_59 rfl hl kk)) ?_
  refine mx_all_cons (ok_callV (C := "HeaderScheduleModel") (T := T_Mo) (N := 40) X (mx_Zok_Z zz) hz ⟨(Nat.le_of_ble_eq_true rfl), (Nat.le_of_ble_eq_true rfl)⟩ (m_Mo_free l zz) ⟨mx_cwB 1 hm w836 w833 w40 rfl rfl (by decide +kernel) ⟨(Nat.le_of_ble_eq_true rfl), (Nat.le_of_ble_eq_true rfl)⟩, (hm _ w835), hm _ w20⟩ rfl d_Mo_event_60) ?_
  refine mx_all_cons (ok_if (fun kt kf => lv_if_eq X.1.1 X.1.2.1 d_Mo_event_63 (by decide) kt kf)) ?_
  refine mx_all_cons (ok_aload (fun hl kk => lv_aload_n X.1.1 X.1.2.1 d_Mo_event_66 rfl hl kk) (fun hl kk => lv_aload_nN X.1.1 X.1.2.1 d_Mo_event_66 rfl hl kk)) ?_
  refine mx_all_cons (ok_iload (fun hl kk => lv_iload_n X.1.1 X.1.2.1 d_Mo_event_67 rfl hl kk)) ?_
  refine mx_all_cons (ok_callV (C := "HeaderScheduleModel") (T := T_Mo) (N := 40) X (mx_Zok_Z zz) hz ⟨(Nat.le_of_ble_eq_true rfl), (Nat.le_of_ble_eq_true rfl)⟩ (m_Mo_free l zz) ⟨mx_cwB 1 hm w836 w833 w40 rfl rfl (by decide +kernel) ⟨(Nat.le_of_ble_eq_true rfl), (Nat.le_of_ble_eq_true rfl)⟩, (hm _ w835), hm _ w20⟩ rfl d_Mo_event_68) ?_
  refine mx_all_cons (ok_if (fun kt kf => lv_if_eq X.1.1 X.1.2.1 d_Mo_event_71 (by decide) kt kf)) ?_
  refine mx_all_cons (ok_iload (fun hl kk => lv_iload X.1.1 X.1.2.1 d_Mo_event_74 hl kk)) ?_
  refine mx_all_cons (ok_if (fun kt kf => lv_if_eq X.1.1 X.1.2.1 d_Mo_event_76 (by decide) kt kf)) ?_
  refine mx_all_cons (ok_aload (fun hl kk => lv_aload_n X.1.1 X.1.2.1 d_Mo_event_79 rfl hl kk) (fun hl kk => lv_aload_nN X.1.1 X.1.2.1 d_Mo_event_79 rfl hl kk)) ?_
  refine mx_all_cons (ok_iload (fun hl kk => lv_iload X.1.1 X.1.2.1 d_Mo_event_80 hl kk)) ?_
  refine mx_all_cons (ok_callV (C := "HeaderScheduleModel") (T := T_Mo) (N := 40) X (mx_Zok_Z zz) hz ⟨(Nat.le_of_ble_eq_true rfl), (Nat.le_of_ble_eq_true rfl)⟩ (m_Mo_free l zz) ⟨mx_cwB 1 hm w836 w833 w40 rfl rfl (by decide +kernel) ⟨(Nat.le_of_ble_eq_true rfl), (Nat.le_of_ble_eq_true rfl)⟩, (hm _ w835), hm _ w20⟩ rfl d_Mo_event_82) ?_
  refine mx_all_cons (ok_if (fun kt kf => lv_if_eq X.1.1 X.1.2.1 d_Mo_event_85 (by decide) kt kf)) ?_
  refine mx_all_cons (ok_aload (fun hl kk => lv_aload_n X.1.1 X.1.2.1 d_Mo_event_88 rfl hl kk) (fun hl kk => lv_aload_nN X.1.1 X.1.2.1 d_Mo_event_88 rfl hl kk)) ?_
  refine mx_all_cons (ok_iload (fun hl kk => lv_iload_n X.1.1 X.1.2.1 d_Mo_event_89 rfl hl kk)) ?_
  refine mx_all_cons (ok_iload (fun hl kk => lv_iload_n X.1.1 X.1.2.1 d_Mo_event_90 rfl hl kk)) ?_
  refine mx_all_cons (ok_callV (C := "HeaderScheduleModel") (T := T_Mo) (N := 40) X (mx_Zok_Z zz) hz ⟨(Nat.le_of_ble_eq_true rfl), (Nat.le_of_ble_eq_true rfl)⟩ (m_Mo_fit l zz) ⟨mx_cwB 2 hm w840 w837 w40 rfl rfl (by decide +kernel) ⟨(Nat.le_of_ble_eq_true rfl), (Nat.le_of_ble_eq_true rfl)⟩, (hm _ w839), hm _ w21⟩ rfl d_Mo_event_91) ?_
  refine mx_all_cons (ok_if (fun kt kf => lv_if_ne X.1.1 X.1.2.1 d_Mo_event_94 (by decide) kt (fun z => kf (fun g => g z)))) ?_
  refine mx_all_cons (ok_push (fun kk => lv_iconst X.1.1 X.1.2.1 d_Mo_event_97 (by decide) kk)) ?_
  refine mx_all_cons (ok_iret X hr hlk d_Mo_event_98) ?_
  refine mx_all_cons (ok_iload (fun hl kk => lv_iload X.1.1 X.1.2.1 d_Mo_event_99 hl kk)) ?_
  refine mx_all_cons (ok_if (fun kt kf => lv_if_eq X.1.1 X.1.2.1 d_Mo_event_101 (by decide) kt kf)) ?_
  refine mx_all_cons (ok_aload (fun hl kk => lv_aload_n X.1.1 X.1.2.1 d_Mo_event_104 rfl hl kk) (fun hl kk => lv_aload_nN X.1.1 X.1.2.1 d_Mo_event_104 rfl hl kk)) ?_
  refine mx_all_cons (ok_iload (fun hl kk => lv_iload_n X.1.1 X.1.2.1 d_Mo_event_105 rfl hl kk)) ?_
  refine mx_all_cons (ok_iload (fun hl kk => lv_iload X.1.1 X.1.2.1 d_Mo_event_106 hl kk)) ?_
  refine mx_all_cons (ok_callV (C := "HeaderScheduleModel") (T := T_Mo) (N := 40) X (mx_Zok_Z zz) hz ⟨(Nat.le_of_ble_eq_true rfl), (Nat.le_of_ble_eq_true rfl)⟩ (m_Mo_fit l zz) ⟨mx_cwB 2 hm w840 w837 w40 rfl rfl (by decide +kernel) ⟨(Nat.le_of_ble_eq_true rfl), (Nat.le_of_ble_eq_true rfl)⟩, (hm _ w839), hm _ w21⟩ rfl d_Mo_event_108) ?_
  refine mx_all_cons (ok_if (fun kt kf => lv_if_eq X.1.1 X.1.2.1 d_Mo_event_111 (by decide) kt kf)) ?_
  refine mx_all_cons (ok_aload (fun hl kk => lv_aload_n X.1.1 X.1.2.1 d_Mo_event_114 rfl hl kk) (fun hl kk => lv_aload_nN X.1.1 X.1.2.1 d_Mo_event_114 rfl hl kk)) ?_
  refine mx_all_cons (ok_iload (fun hl kk => lv_iload_n X.1.1 X.1.2.1 d_Mo_event_115 rfl hl kk)) ?_
  refine mx_all_cons (ok_iload (fun hl kk => lv_iload X.1.1 X.1.2.1 d_Mo_event_116 hl kk)) ?_
  refine mx_all_cons (ok_callV (C := "HeaderScheduleModel") (T := T_Mo) (N := 40) X (mx_Zok_Z zz) hz ⟨(Nat.le_of_ble_eq_true rfl), (Nat.le_of_ble_eq_true rfl)⟩ (m_Mo_fit l zz) ⟨mx_cwB 2 hm w840 w837 w40 rfl rfl (by decide +kernel) ⟨(Nat.le_of_ble_eq_true rfl), (Nat.le_of_ble_eq_true rfl)⟩, (hm _ w839), hm _ w21⟩ rfl d_Mo_event_118) ?_
  refine mx_all_cons (ok_if (fun kt kf => lv_if_ne X.1.1 X.1.2.1 d_Mo_event_121 (by decide) kt (fun z => kf (fun g => g z)))) ?_
  refine mx_all_cons (ok_push (fun kk => lv_iconst X.1.1 X.1.2.1 d_Mo_event_124 (by decide) kk)) ?_
  refine mx_all_cons (ok_iret X hr hlk d_Mo_event_125) ?_
  refine mx_all_cons (ok_aload (fun hl kk => lv_aload_n X.1.1 X.1.2.1 d_Mo_event_126 rfl hl kk) (fun hl kk => lv_aload_nN X.1.1 X.1.2.1 d_Mo_event_126 rfl hl kk)) ?_
  refine mx_all_cons (ok_get (C := "HeaderScheduleModel") (T := T_Mo) (N := 40) X (mw_up in_Mo) rfl 17 (by decide) (hm _ w694) (fun _ h9 => h9) d_Mo_event_127) ?_
  refine mx_all_cons (ok_aload (fun hl kk => lv_aload_n X.1.1 X.1.2.1 d_Mo_event_130 rfl hl kk) (fun hl kk => lv_aload_nN X.1.1 X.1.2.1 d_Mo_event_130 rfl hl kk)) ?_
  refine mx_all_cons (ok_get (C := "HeaderScheduleModel") (T := T_Mo) (N := 40) X (mw_up in_Mo) rfl 16 (by decide) (hm _ w693) (fun _ h9 => h9) d_Mo_event_131) ?_
  refine mx_all_cons (ok_iload (fun hl kk => lv_iload_n X.1.1 X.1.2.1 d_Mo_event_134 rfl hl kk)) ?_
  refine mx_all_cons (ok_iast X d_Mo_event_135) ?_
  refine mx_all_cons (ok_aload (fun hl kk => lv_aload_n X.1.1 X.1.2.1 d_Mo_event_136 rfl hl kk) (fun hl kk => lv_aload_nN X.1.1 X.1.2.1 d_Mo_event_136 rfl hl kk)) ?_
  refine mx_all_cons (ok_get (C := "HeaderScheduleModel") (T := T_Mo) (N := 40) X (mw_up in_Mo) rfl 19 (by decide) (hm _ w696) (fun _ h9 => h9) d_Mo_event_137) ?_
  refine mx_all_cons (ok_aload (fun hl kk => lv_aload_n X.1.1 X.1.2.1 d_Mo_event_140 rfl hl kk) (fun hl kk => lv_aload_nN X.1.1 X.1.2.1 d_Mo_event_140 rfl hl kk)) ?_
  refine mx_all_cons (ok_get (C := "HeaderScheduleModel") (T := T_Mo) (N := 40) X (mw_up in_Mo) rfl 16 (by decide) (hm _ w693) (fun _ h9 => h9) d_Mo_event_141) ?_
  refine mx_all_cons (ok_iload (fun hl kk => lv_iload X.1.1 X.1.2.1 d_Mo_event_144 hl kk)) ?_
  refine mx_all_cons (ok_iast X d_Mo_event_146) ?_
  refine mx_all_cons (ok_aload (fun hl kk => lv_aload_n X.1.1 X.1.2.1 d_Mo_event_147 rfl hl kk) (fun hl kk => lv_aload_nN X.1.1 X.1.2.1 d_Mo_event_147 rfl hl kk)) ?_
  refine mx_all_cons (ok_get (C := "HeaderScheduleModel") (T := T_Mo) (N := 40) X (mw_up in_Mo) rfl 18 (by decide) (hm _ w695) (fun _ h9 => h9) d_Mo_event_148) ?_
  refine mx_all_cons (ok_push (fun kk => lv_iconst X.1.1 X.1.2.1 d_Mo_event_151 (by decide) kk)) ?_
  refine mx_all_cons (ok_aload (fun hl kk => lv_aload_n X.1.1 X.1.2.1 d_Mo_event_152 rfl hl kk) (fun hl kk => lv_aload_nN X.1.1 X.1.2.1 d_Mo_event_152 rfl hl kk)) ?_
  refine mx_all_cons (ok_get (C := "HeaderScheduleModel") (T := T_Mo) (N := 40) X (mw_up in_Mo) rfl 16 (by decide) (hm _ w693) (fun _ h9 => h9) d_Mo_event_153) ?_
  refine mx_all_cons (ok_ii (fun kk => lv_imul X.1.1 X.1.2.1 d_Mo_event_156 kk)) ?_
  refine mx_all_cons (ok_iload (fun hl kk => lv_iload_n X.1.1 X.1.2.1 d_Mo_event_157 rfl hl kk)) ?_
  refine mx_all_cons (ok_iast X d_Mo_event_158) ?_
  refine mx_all_cons (ok_aload (fun hl kk => lv_aload_n X.1.1 X.1.2.1 d_Mo_event_159 rfl hl kk) (fun hl kk => lv_aload_nN X.1.1 X.1.2.1 d_Mo_event_159 rfl hl kk)) ?_
  refine mx_all_cons (ok_get (C := "HeaderScheduleModel") (T := T_Mo) (N := 40) X (mw_up in_Mo) rfl 18 (by decide) (hm _ w695) (fun _ h9 => h9) d_Mo_event_160) ?_
  refine mx_all_cons (ok_push (fun kk => lv_iconst X.1.1 X.1.2.1 d_Mo_event_163 (by decide) kk)) ?_
  refine mx_all_cons (ok_aload (fun hl kk => lv_aload_n X.1.1 X.1.2.1 d_Mo_event_164 rfl hl kk) (fun hl kk => lv_aload_nN X.1.1 X.1.2.1 d_Mo_event_164 rfl hl kk)) ?_
  refine mx_all_cons (ok_get (C := "HeaderScheduleModel") (T := T_Mo) (N := 40) X (mw_up in_Mo) rfl 16 (by decide) (hm _ w693) (fun _ h9 => h9) d_Mo_event_165) ?_
  refine mx_all_cons (ok_ii (fun kk => lv_imul X.1.1 X.1.2.1 d_Mo_event_168 kk)) ?_
  refine mx_all_cons (ok_push (fun kk => lv_iconst X.1.1 X.1.2.1 d_Mo_event_169 (by decide) kk)) ?_
  refine mx_all_cons (ok_ii (fun kk => lv_iadd X.1.1 X.1.2.1 d_Mo_event_170 kk)) ?_
  refine mx_all_cons (ok_iload (fun hl kk => lv_iload_n X.1.1 X.1.2.1 d_Mo_event_171 rfl hl kk)) ?_
  refine mx_all_cons (ok_iast X d_Mo_event_172) ?_
  refine mx_all_cons (ok_aload (fun hl kk => lv_aload_n X.1.1 X.1.2.1 d_Mo_event_173 rfl hl kk) (fun hl kk => lv_aload_nN X.1.1 X.1.2.1 d_Mo_event_173 rfl hl kk)) ?_
  refine mx_all_cons (ok_get (C := "HeaderScheduleModel") (T := T_Mo) (N := 40) X (mw_up in_Mo) rfl 18 (by decide) (hm _ w695) (fun _ h9 => h9) d_Mo_event_174) ?_
  refine mx_all_cons (ok_push (fun kk => lv_iconst X.1.1 X.1.2.1 d_Mo_event_177 (by decide) kk)) ?_
  refine mx_all_cons (ok_aload (fun hl kk => lv_aload_n X.1.1 X.1.2.1 d_Mo_event_178 rfl hl kk) (fun hl kk => lv_aload_nN X.1.1 X.1.2.1 d_Mo_event_178 rfl hl kk)) ?_
  refine mx_all_cons (ok_get (C := "HeaderScheduleModel") (T := T_Mo) (N := 40) X (mw_up in_Mo) rfl 16 (by decide) (hm _ w693) (fun _ h9 => h9) d_Mo_event_179) ?_
  refine mx_all_cons (ok_ii (fun kk => lv_imul X.1.1 X.1.2.1 d_Mo_event_182 kk)) ?_
  refine mx_all_cons (ok_push (fun kk => lv_iconst X.1.1 X.1.2.1 d_Mo_event_183 (by decide) kk)) ?_
  refine mx_all_cons (ok_ii (fun kk => lv_iadd X.1.1 X.1.2.1 d_Mo_event_184 kk)) ?_
  refine mx_all_cons (ok_iload (fun hl kk => lv_iload X.1.1 X.1.2.1 d_Mo_event_185 hl kk)) ?_
  refine mx_all_cons (ok_iast X d_Mo_event_187) ?_
  refine mx_all_cons (ok_aload (fun hl kk => lv_aload_n X.1.1 X.1.2.1 d_Mo_event_188 rfl hl kk) (fun hl kk => lv_aload_nN X.1.1 X.1.2.1 d_Mo_event_188 rfl hl kk)) ?_
  refine mx_all_cons (ok_dup X d_Mo_event_189) ?_
  refine mx_all_cons (ok_get (C := "HeaderScheduleModel") (T := T_Mo) (N := 40) X (mw_up in_Mo) rfl 16 (by decide) (hm _ w693) (fun _ h9 => h9) d_Mo_event_190) ?_
  refine mx_all_cons (ok_push (fun kk => lv_iconst X.1.1 X.1.2.1 d_Mo_event_193 (by decide) kk)) ?_
  refine mx_all_cons (ok_ii (fun kk => lv_iadd X.1.1 X.1.2.1 d_Mo_event_194 kk)) ?_
  refine mx_all_cons (ok_put (C := "HeaderScheduleModel") (T := T_Mo) (N := 40) X (mw_up in_Mo) ty_Mo tyok_Mo nm_Mo rfl 16 (by decide) (hm _ w693) (fun _ h9 => h9) rfl (tyok_Mo 16 (by decide)) mx_vI_ok d_Mo_event_195) ?_
  refine mx_all_cons (ok_aload (fun hl kk => lv_aload_n X.1.1 X.1.2.1 d_Mo_event_198 rfl hl kk) (fun hl kk => lv_aload_nN X.1.1 X.1.2.1 d_Mo_event_198 rfl hl kk)) ?_
  refine mx_all_cons (ok_get (C := "HeaderScheduleModel") (T := T_Mo) (N := 40) X (mw_up in_Mo) rfl 6 (by decide) (hm _ w683) (fun _ h9 => h9) d_Mo_event_199) ?_
  refine mx_all_cons (ok_iload (fun hl kk => lv_iload_n X.1.1 X.1.2.1 d_Mo_event_202 rfl hl kk)) ?_
  refine mx_all_cons (ok_aload (fun hl kk => lv_aload_n X.1.1 X.1.2.1 d_Mo_event_203 rfl hl kk) (fun hl kk => lv_aload_nN X.1.1 X.1.2.1 d_Mo_event_203 rfl hl kk)) ?_
  refine mx_all_cons (ok_get (C := "HeaderScheduleModel") (T := T_Mo) (N := 40) X (mw_up in_Mo) rfl 16 (by decide) (hm _ w693) (fun _ h9 => h9) d_Mo_event_204) ?_
  refine mx_all_cons (ok_iast X d_Mo_event_207) ?_
  refine mx_all_cons (ok_aload (fun hl kk => lv_aload_n X.1.1 X.1.2.1 d_Mo_event_208 rfl hl kk) (fun hl kk => lv_aload_nN X.1.1 X.1.2.1 d_Mo_event_208 rfl hl kk)) ?_
  refine mx_all_cons (ok_get (C := "HeaderScheduleModel") (T := T_Mo) (N := 40) X (mw_up in_Mo) rfl 6 (by decide) (hm _ w683) (fun _ h9 => h9) d_Mo_event_209) ?_
  refine mx_all_cons (ok_iload (fun hl kk => lv_iload_n X.1.1 X.1.2.1 d_Mo_event_212 rfl hl kk)) ?_
  refine mx_all_cons (ok_aload (fun hl kk => lv_aload_n X.1.1 X.1.2.1 d_Mo_event_213 rfl hl kk) (fun hl kk => lv_aload_nN X.1.1 X.1.2.1 d_Mo_event_213 rfl hl kk)) ?_
  refine mx_all_cons (ok_get (C := "HeaderScheduleModel") (T := T_Mo) (N := 40) X (mw_up in_Mo) rfl 16 (by decide) (hm _ w693) (fun _ h9 => h9) d_Mo_event_214) ?_
  refine mx_all_cons (ok_iast X d_Mo_event_217) ?_
  refine mx_all_cons (ok_iload (fun hl kk => lv_iload X.1.1 X.1.2.1 d_Mo_event_218 hl kk)) ?_
  refine mx_all_cons (ok_if (fun kt kf => lv_if_eq X.1.1 X.1.2.1 d_Mo_event_220 (by decide) kt kf)) ?_
  refine mx_all_cons (ok_aload (fun hl kk => lv_aload_n X.1.1 X.1.2.1 d_Mo_event_223 rfl hl kk) (fun hl kk => lv_aload_nN X.1.1 X.1.2.1 d_Mo_event_223 rfl hl kk)) ?_
  refine mx_all_cons (ok_get (C := "HeaderScheduleModel") (T := T_Mo) (N := 40) X (mw_up in_Mo) rfl 6 (by decide) (hm _ w683) (fun _ h9 => h9) d_Mo_event_224) ?_
  refine mx_all_cons (ok_iload (fun hl kk => lv_iload X.1.1 X.1.2.1 d_Mo_event_227 hl kk)) ?_
  refine mx_all_cons (ok_aload (fun hl kk => lv_aload_n X.1.1 X.1.2.1 d_Mo_event_229 rfl hl kk) (fun hl kk => lv_aload_nN X.1.1 X.1.2.1 d_Mo_event_229 rfl hl kk)) ?_
  refine mx_all_cons (ok_get (C := "HeaderScheduleModel") (T := T_Mo) (N := 40) X (mw_up in_Mo) rfl 16 (by decide) (hm _ w693) (fun _ h9 => h9) d_Mo_event_230) ?_
  refine mx_all_cons (ok_iast X d_Mo_event_233) ?_
  refine mx_all_cons (ok_aload (fun hl kk => lv_aload_n X.1.1 X.1.2.1 d_Mo_event_234 rfl hl kk) (fun hl kk => lv_aload_nN X.1.1 X.1.2.1 d_Mo_event_234 rfl hl kk)) ?_
  refine mx_all_cons (ok_get (C := "HeaderScheduleModel") (T := T_Mo) (N := 40) X (mw_up in_Mo) rfl 16 (by decide) (hm _ w693) (fun _ h9 => h9) d_Mo_event_235) ?_
  refine mx_all_cons (ok_push (fun kk => lv_iconst X.1.1 X.1.2.1 d_Mo_event_238 (by decide) kk)) ?_
  refine mx_all_cons (ok_ii (fun kk => lv_isub X.1.1 X.1.2.1 d_Mo_event_239 kk)) ?_
  refine mx_all_cons (ok_iret X hr hlk d_Mo_event_240) ?_
  exact mx_all_nil
theorem st_Mo_event_0 (zz : Nat × Nat) (r : mx_T) (ls : mx_L) (st : List Value) (h : mx_H) (c n : Nat) : mx_G r (t_Mo_event zz) 0 ls st h c n = (o_iload 2 4) r (mx_G r (t_Mo_event zz)) 0 ls st h c n := mx_G_eq (tm_Mo_event zz) r 0 ls st h c n
theorem st_Mo_event_2 (zz : Nat × Nat) (r : mx_T) (ls : mx_L) (st : List Value) (h : mx_H) (c n : Nat) : mx_G r (t_Mo_event zz) 2 ls st h c n = (o_push 1 (.int (-1))) r (mx_G r (t_Mo_event zz)) 2 ls st h c n := mx_G_eq (tm_Mo_event zz) r 2 ls st h c n
theorem st_Mo_event_3 (zz : Nat × Nat) (r : mx_T) (ls : mx_L) (st : List Value) (h : mx_H) (c n : Nat) : mx_G r (t_Mo_event zz) 3 ls st h c n = (o_icmp 10 (fun x y => x = y)) r (mx_G r (t_Mo_event zz)) 3 ls st h c n := mx_G_eq (tm_Mo_event zz) r 3 ls st h c n
theorem st_Mo_event_6 (zz : Nat × Nat) (r : mx_T) (ls : mx_L) (st : List Value) (h : mx_H) (c n : Nat) : mx_G r (t_Mo_event zz) 6 ls st h c n = (o_push 1 (.int 1)) r (mx_G r (t_Mo_event zz)) 6 ls st h c n := mx_G_eq (tm_Mo_event zz) r 6 ls st h c n
theorem st_Mo_event_7 (zz : Nat × Nat) (r : mx_T) (ls : mx_L) (st : List Value) (h : mx_H) (c n : Nat) : mx_G r (t_Mo_event zz) 7 ls st h c n = (o_goto 11) r (mx_G r (t_Mo_event zz)) 7 ls st h c n := mx_G_eq (tm_Mo_event zz) r 7 ls st h c n
theorem st_Mo_event_10 (zz : Nat × Nat) (r : mx_T) (ls : mx_L) (st : List Value) (h : mx_H) (c n : Nat) : mx_G r (t_Mo_event zz) 10 ls st h c n = (o_push 1 (.int 0)) r (mx_G r (t_Mo_event zz)) 10 ls st h c n := mx_G_eq (tm_Mo_event zz) r 10 ls st h c n
theorem st_Mo_event_11 (zz : Nat × Nat) (r : mx_T) (ls : mx_L) (st : List Value) (h : mx_H) (c n : Nat) : mx_G r (t_Mo_event zz) 11 ls st h c n = (o_istore 2 6) r (mx_G r (t_Mo_event zz)) 11 ls st h c n := mx_G_eq (tm_Mo_event zz) r 11 ls st h c n
theorem st_Mo_event_13 (zz : Nat × Nat) (r : mx_T) (ls : mx_L) (st : List Value) (h : mx_H) (c n : Nat) : mx_G r (t_Mo_event zz) 13 ls st h c n = (o_aload 1 0) r (mx_G r (t_Mo_event zz)) 13 ls st h c n := mx_G_eq (tm_Mo_event zz) r 13 ls st h c n
theorem st_Mo_event_14 (zz : Nat × Nat) (r : mx_T) (ls : mx_L) (st : List Value) (h : mx_H) (c n : Nat) : mx_G r (t_Mo_event zz) 14 ls st h c n = (o_get 10 24) r (mx_G r (t_Mo_event zz)) 14 ls st h c n := mx_G_eq (tm_Mo_event zz) r 14 ls st h c n
theorem st_Mo_event_17 (zz : Nat × Nat) (r : mx_T) (ls : mx_L) (st : List Value) (h : mx_H) (c n : Nat) : mx_G r (t_Mo_event zz) 17 ls st h c n = (o_if 56 (fun x => ¬ x = 0)) r (mx_G r (t_Mo_event zz)) 17 ls st h c n := mx_G_eq (tm_Mo_event zz) r 17 ls st h c n
theorem st_Mo_event_20 (zz : Nat × Nat) (r : mx_T) (ls : mx_L) (st : List Value) (h : mx_H) (c n : Nat) : mx_G r (t_Mo_event zz) 20 ls st h c n = (o_aload 1 0) r (mx_G r (t_Mo_event zz)) 20 ls st h c n := mx_G_eq (tm_Mo_event zz) r 20 ls st h c n
theorem st_Mo_event_21 (zz : Nat × Nat) (r : mx_T) (ls : mx_L) (st : List Value) (h : mx_H) (c n : Nat) : mx_G r (t_Mo_event zz) 21 ls st h c n = (o_get 10 16) r (mx_G r (t_Mo_event zz)) 21 ls st h c n := mx_G_eq (tm_Mo_event zz) r 21 ls st h c n
theorem st_Mo_event_24 (zz : Nat × Nat) (r : mx_T) (ls : mx_L) (st : List Value) (h : mx_H) (c n : Nat) : mx_G r (t_Mo_event zz) 24 ls st h c n = (o_push 1 (.int 2)) r (mx_G r (t_Mo_event zz)) 24 ls st h c n := mx_G_eq (tm_Mo_event zz) r 24 ls st h c n
theorem st_Mo_event_25 (zz : Nat × Nat) (r : mx_T) (ls : mx_L) (st : List Value) (h : mx_H) (c n : Nat) : mx_G r (t_Mo_event zz) 25 ls st h c n = (o_icmp 56 (fun x y => x = y)) r (mx_G r (t_Mo_event zz)) 25 ls st h c n := mx_G_eq (tm_Mo_event zz) r 25 ls st h c n
theorem st_Mo_event_28 (zz : Nat × Nat) (r : mx_T) (ls : mx_L) (st : List Value) (h : mx_H) (c n : Nat) : mx_G r (t_Mo_event zz) 28 ls st h c n = (o_iload 1 1) r (mx_G r (t_Mo_event zz)) 28 ls st h c n := mx_G_eq (tm_Mo_event zz) r 28 ls st h c n
theorem st_Mo_event_29 (zz : Nat × Nat) (r : mx_T) (ls : mx_L) (st : List Value) (h : mx_H) (c n : Nat) : mx_G r (t_Mo_event zz) 29 ls st h c n = (o_push 1 (.int 0)) r (mx_G r (t_Mo_event zz)) 29 ls st h c n := mx_G_eq (tm_Mo_event zz) r 29 ls st h c n
theorem st_Mo_event_30 (zz : Nat × Nat) (r : mx_T) (ls : mx_L) (st : List Value) (h : mx_H) (c n : Nat) : mx_G r (t_Mo_event zz) 30 ls st h c n = (o_push 2 (.int 59)) r (mx_G r (t_Mo_event zz)) 30 ls st h c n := mx_G_eq (tm_Mo_event zz) r 30 ls st h c n
theorem st_Mo_event_32 (zz : Nat × Nat) (r : mx_T) (ls : mx_L) (st : List Value) (h : mx_H) (c n : Nat) : mx_G r (t_Mo_event zz) 32 ls st h c n = (o_call 0 0 3 0 0 (fun _ _ => True) (S_Mo_within zz)) r (mx_G r (t_Mo_event zz)) 32 ls st h c n := mx_G_eq (tm_Mo_event zz) r 32 ls st h c n
theorem st_Mo_event_35 (zz : Nat × Nat) (r : mx_T) (ls : mx_L) (st : List Value) (h : mx_H) (c n : Nat) : mx_G r (t_Mo_event zz) 35 ls st h c n = (o_if 56 (fun x => x = 0)) r (mx_G r (t_Mo_event zz)) 35 ls st h c n := mx_G_eq (tm_Mo_event zz) r 35 ls st h c n
theorem st_Mo_event_38 (zz : Nat × Nat) (r : mx_T) (ls : mx_L) (st : List Value) (h : mx_H) (c n : Nat) : mx_G r (t_Mo_event zz) 38 ls st h c n = (o_aload 1 0) r (mx_G r (t_Mo_event zz)) 38 ls st h c n := mx_G_eq (tm_Mo_event zz) r 38 ls st h c n
theorem st_Mo_event_39 (zz : Nat × Nat) (r : mx_T) (ls : mx_L) (st : List Value) (h : mx_H) (c n : Nat) : mx_G r (t_Mo_event zz) 39 ls st h c n = (o_iload 1 1) r (mx_G r (t_Mo_event zz)) 39 ls st h c n := mx_G_eq (tm_Mo_event zz) r 39 ls st h c n
theorem st_Mo_event_40 (zz : Nat × Nat) (r : mx_T) (ls : mx_L) (st : List Value) (h : mx_H) (c n : Nat) : mx_G r (t_Mo_event zz) 40 ls st h c n = (o_call 0 0 2 0 0 (mx_rv 10) (S_Mo_taken zz)) r (mx_G r (t_Mo_event zz)) 40 ls st h c n := mx_G_eq (tm_Mo_event zz) r 40 ls st h c n
theorem st_Mo_event_43 (zz : Nat × Nat) (r : mx_T) (ls : mx_L) (st : List Value) (h : mx_H) (c n : Nat) : mx_G r (t_Mo_event zz) 43 ls st h c n = (o_if 56 (fun x => ¬ x = 0)) r (mx_G r (t_Mo_event zz)) 43 ls st h c n := mx_G_eq (tm_Mo_event zz) r 43 ls st h c n
theorem st_Mo_event_46 (zz : Nat × Nat) (r : mx_T) (ls : mx_L) (st : List Value) (h : mx_H) (c n : Nat) : mx_G r (t_Mo_event zz) 46 ls st h c n = (o_iload 2 5) r (mx_G r (t_Mo_event zz)) 46 ls st h c n := mx_G_eq (tm_Mo_event zz) r 46 ls st h c n
theorem st_Mo_event_48 (zz : Nat × Nat) (r : mx_T) (ls : mx_L) (st : List Value) (h : mx_H) (c n : Nat) : mx_G r (t_Mo_event zz) 48 ls st h c n = (o_push 1 (.int 0)) r (mx_G r (t_Mo_event zz)) 48 ls st h c n := mx_G_eq (tm_Mo_event zz) r 48 ls st h c n
theorem st_Mo_event_49 (zz : Nat × Nat) (r : mx_T) (ls : mx_L) (st : List Value) (h : mx_H) (c n : Nat) : mx_G r (t_Mo_event zz) 49 ls st h c n = (o_push 1 (.int 2)) r (mx_G r (t_Mo_event zz)) 49 ls st h c n := mx_G_eq (tm_Mo_event zz) r 49 ls st h c n
theorem st_Mo_event_50 (zz : Nat × Nat) (r : mx_T) (ls : mx_L) (st : List Value) (h : mx_H) (c n : Nat) : mx_G r (t_Mo_event zz) 50 ls st h c n = (o_call 0 0 3 0 0 (fun _ _ => True) (S_Mo_within zz)) r (mx_G r (t_Mo_event zz)) 50 ls st h c n := mx_G_eq (tm_Mo_event zz) r 50 ls st h c n
theorem st_Mo_event_53 (zz : Nat × Nat) (r : mx_T) (ls : mx_L) (st : List Value) (h : mx_H) (c n : Nat) : mx_G r (t_Mo_event zz) 53 ls st h c n = (o_if 58 (fun x => ¬ x = 0)) r (mx_G r (t_Mo_event zz)) 53 ls st h c n := mx_G_eq (tm_Mo_event zz) r 53 ls st h c n
theorem st_Mo_event_56 (zz : Nat × Nat) (r : mx_T) (ls : mx_L) (st : List Value) (h : mx_H) (c n : Nat) : mx_G r (t_Mo_event zz) 56 ls st h c n = (o_push 1 (.int (-1))) r (mx_G r (t_Mo_event zz)) 56 ls st h c n := mx_G_eq (tm_Mo_event zz) r 56 ls st h c n
theorem st_Mo_event_57 (zz : Nat × Nat) (r : mx_T) (ls : mx_L) (st : List Value) (h : mx_H) (c n : Nat) : mx_G r (t_Mo_event zz) 57 ls st h c n = (o_iret) r (mx_G r (t_Mo_event zz)) 57 ls st h c n := mx_G_eq (tm_Mo_event zz) r 57 ls st h c n
theorem st_Mo_event_58 (zz : Nat × Nat) (r : mx_T) (ls : mx_L) (st : List Value) (h : mx_H) (c n : Nat) : mx_G r (t_Mo_event zz) 58 ls st h c n = (o_aload 1 0) r (mx_G r (t_Mo_event zz)) 58 ls st h c n := mx_G_eq (tm_Mo_event zz) r 58 ls st h c n
theorem st_Mo_event_59 (zz : Nat × Nat) (r : mx_T) (ls : mx_L) (st : List Value) (h : mx_H) (c n : Nat) : mx_G r (t_Mo_event zz) 59 ls st h c n = (o_iload 1 2) r (mx_G r (t_Mo_event zz)) 59 ls st h c n := mx_G_eq (tm_Mo_event zz) r 59 ls st h c n
theorem st_Mo_event_60 (zz : Nat × Nat) (r : mx_T) (ls : mx_L) (st : List Value) (h : mx_H) (c n : Nat) : mx_G r (t_Mo_event zz) 60 ls st h c n = (o_call 0 0 2 0 0 (mx_rv 10) (S_Mo_free zz)) r (mx_G r (t_Mo_event zz)) 60 ls st h c n := mx_G_eq (tm_Mo_event zz) r 60 ls st h c n
theorem st_Mo_event_63 (zz : Nat × Nat) (r : mx_T) (ls : mx_L) (st : List Value) (h : mx_H) (c n : Nat) : mx_G r (t_Mo_event zz) 63 ls st h c n = (o_if 97 (fun x => x = 0)) r (mx_G r (t_Mo_event zz)) 63 ls st h c n := mx_G_eq (tm_Mo_event zz) r 63 ls st h c n
theorem st_Mo_event_66 (zz : Nat × Nat) (r : mx_T) (ls : mx_L) (st : List Value) (h : mx_H) (c n : Nat) : mx_G r (t_Mo_event zz) 66 ls st h c n = (o_aload 1 0) r (mx_G r (t_Mo_event zz)) 66 ls st h c n := mx_G_eq (tm_Mo_event zz) r 66 ls st h c n
theorem st_Mo_event_67 (zz : Nat × Nat) (r : mx_T) (ls : mx_L) (st : List Value) (h : mx_H) (c n : Nat) : mx_G r (t_Mo_event zz) 67 ls st h c n = (o_iload 1 3) r (mx_G r (t_Mo_event zz)) 67 ls st h c n := mx_G_eq (tm_Mo_event zz) r 67 ls st h c n
theorem st_Mo_event_68 (zz : Nat × Nat) (r : mx_T) (ls : mx_L) (st : List Value) (h : mx_H) (c n : Nat) : mx_G r (t_Mo_event zz) 68 ls st h c n = (o_call 0 0 2 0 0 (mx_rv 10) (S_Mo_free zz)) r (mx_G r (t_Mo_event zz)) 68 ls st h c n := mx_G_eq (tm_Mo_event zz) r 68 ls st h c n
theorem st_Mo_event_71 (zz : Nat × Nat) (r : mx_T) (ls : mx_L) (st : List Value) (h : mx_H) (c n : Nat) : mx_G r (t_Mo_event zz) 71 ls st h c n = (o_if 97 (fun x => x = 0)) r (mx_G r (t_Mo_event zz)) 71 ls st h c n := mx_G_eq (tm_Mo_event zz) r 71 ls st h c n
theorem st_Mo_event_74 (zz : Nat × Nat) (r : mx_T) (ls : mx_L) (st : List Value) (h : mx_H) (c n : Nat) : mx_G r (t_Mo_event zz) 74 ls st h c n = (o_iload 2 6) r (mx_G r (t_Mo_event zz)) 74 ls st h c n := mx_G_eq (tm_Mo_event zz) r 74 ls st h c n
theorem st_Mo_event_76 (zz : Nat × Nat) (r : mx_T) (ls : mx_L) (st : List Value) (h : mx_H) (c n : Nat) : mx_G r (t_Mo_event zz) 76 ls st h c n = (o_if 88 (fun x => x = 0)) r (mx_G r (t_Mo_event zz)) 76 ls st h c n := mx_G_eq (tm_Mo_event zz) r 76 ls st h c n
theorem st_Mo_event_79 (zz : Nat × Nat) (r : mx_T) (ls : mx_L) (st : List Value) (h : mx_H) (c n : Nat) : mx_G r (t_Mo_event zz) 79 ls st h c n = (o_aload 1 0) r (mx_G r (t_Mo_event zz)) 79 ls st h c n := mx_G_eq (tm_Mo_event zz) r 79 ls st h c n
theorem st_Mo_event_80 (zz : Nat × Nat) (r : mx_T) (ls : mx_L) (st : List Value) (h : mx_H) (c n : Nat) : mx_G r (t_Mo_event zz) 80 ls st h c n = (o_iload 2 4) r (mx_G r (t_Mo_event zz)) 80 ls st h c n := mx_G_eq (tm_Mo_event zz) r 80 ls st h c n
theorem st_Mo_event_82 (zz : Nat × Nat) (r : mx_T) (ls : mx_L) (st : List Value) (h : mx_H) (c n : Nat) : mx_G r (t_Mo_event zz) 82 ls st h c n = (o_call 0 0 2 0 0 (mx_rv 10) (S_Mo_free zz)) r (mx_G r (t_Mo_event zz)) 82 ls st h c n := mx_G_eq (tm_Mo_event zz) r 82 ls st h c n
theorem st_Mo_event_85 (zz : Nat × Nat) (r : mx_T) (ls : mx_L) (st : List Value) (h : mx_H) (c n : Nat) : mx_G r (t_Mo_event zz) 85 ls st h c n = (o_if 97 (fun x => x = 0)) r (mx_G r (t_Mo_event zz)) 85 ls st h c n := mx_G_eq (tm_Mo_event zz) r 85 ls st h c n
theorem st_Mo_event_88 (zz : Nat × Nat) (r : mx_T) (ls : mx_L) (st : List Value) (h : mx_H) (c n : Nat) : mx_G r (t_Mo_event zz) 88 ls st h c n = (o_aload 1 0) r (mx_G r (t_Mo_event zz)) 88 ls st h c n := mx_G_eq (tm_Mo_event zz) r 88 ls st h c n
theorem st_Mo_event_89 (zz : Nat × Nat) (r : mx_T) (ls : mx_L) (st : List Value) (h : mx_H) (c n : Nat) : mx_G r (t_Mo_event zz) 89 ls st h c n = (o_iload 1 2) r (mx_G r (t_Mo_event zz)) 89 ls st h c n := mx_G_eq (tm_Mo_event zz) r 89 ls st h c n
theorem st_Mo_event_90 (zz : Nat × Nat) (r : mx_T) (ls : mx_L) (st : List Value) (h : mx_H) (c n : Nat) : mx_G r (t_Mo_event zz) 90 ls st h c n = (o_iload 1 3) r (mx_G r (t_Mo_event zz)) 90 ls st h c n := mx_G_eq (tm_Mo_event zz) r 90 ls st h c n
theorem st_Mo_event_91 (zz : Nat × Nat) (r : mx_T) (ls : mx_L) (st : List Value) (h : mx_H) (c n : Nat) : mx_G r (t_Mo_event zz) 91 ls st h c n = (o_call 0 0 3 0 0 (mx_rv 10) (S_Mo_fit zz)) r (mx_G r (t_Mo_event zz)) 91 ls st h c n := mx_G_eq (tm_Mo_event zz) r 91 ls st h c n
theorem st_Mo_event_94 (zz : Nat × Nat) (r : mx_T) (ls : mx_L) (st : List Value) (h : mx_H) (c n : Nat) : mx_G r (t_Mo_event zz) 94 ls st h c n = (o_if 99 (fun x => ¬ x = 0)) r (mx_G r (t_Mo_event zz)) 94 ls st h c n := mx_G_eq (tm_Mo_event zz) r 94 ls st h c n
theorem st_Mo_event_97 (zz : Nat × Nat) (r : mx_T) (ls : mx_L) (st : List Value) (h : mx_H) (c n : Nat) : mx_G r (t_Mo_event zz) 97 ls st h c n = (o_push 1 (.int (-1))) r (mx_G r (t_Mo_event zz)) 97 ls st h c n := mx_G_eq (tm_Mo_event zz) r 97 ls st h c n
theorem st_Mo_event_98 (zz : Nat × Nat) (r : mx_T) (ls : mx_L) (st : List Value) (h : mx_H) (c n : Nat) : mx_G r (t_Mo_event zz) 98 ls st h c n = (o_iret) r (mx_G r (t_Mo_event zz)) 98 ls st h c n := mx_G_eq (tm_Mo_event zz) r 98 ls st h c n
theorem st_Mo_event_99 (zz : Nat × Nat) (r : mx_T) (ls : mx_L) (st : List Value) (h : mx_H) (c n : Nat) : mx_G r (t_Mo_event zz) 99 ls st h c n = (o_iload 2 6) r (mx_G r (t_Mo_event zz)) 99 ls st h c n := mx_G_eq (tm_Mo_event zz) r 99 ls st h c n
theorem st_Mo_event_101 (zz : Nat × Nat) (r : mx_T) (ls : mx_L) (st : List Value) (h : mx_H) (c n : Nat) : mx_G r (t_Mo_event zz) 101 ls st h c n = (o_if 126 (fun x => x = 0)) r (mx_G r (t_Mo_event zz)) 101 ls st h c n := mx_G_eq (tm_Mo_event zz) r 101 ls st h c n
theorem st_Mo_event_104 (zz : Nat × Nat) (r : mx_T) (ls : mx_L) (st : List Value) (h : mx_H) (c n : Nat) : mx_G r (t_Mo_event zz) 104 ls st h c n = (o_aload 1 0) r (mx_G r (t_Mo_event zz)) 104 ls st h c n := mx_G_eq (tm_Mo_event zz) r 104 ls st h c n
theorem st_Mo_event_105 (zz : Nat × Nat) (r : mx_T) (ls : mx_L) (st : List Value) (h : mx_H) (c n : Nat) : mx_G r (t_Mo_event zz) 105 ls st h c n = (o_iload 1 2) r (mx_G r (t_Mo_event zz)) 105 ls st h c n := mx_G_eq (tm_Mo_event zz) r 105 ls st h c n
theorem st_Mo_event_106 (zz : Nat × Nat) (r : mx_T) (ls : mx_L) (st : List Value) (h : mx_H) (c n : Nat) : mx_G r (t_Mo_event zz) 106 ls st h c n = (o_iload 2 4) r (mx_G r (t_Mo_event zz)) 106 ls st h c n := mx_G_eq (tm_Mo_event zz) r 106 ls st h c n
theorem st_Mo_event_108 (zz : Nat × Nat) (r : mx_T) (ls : mx_L) (st : List Value) (h : mx_H) (c n : Nat) : mx_G r (t_Mo_event zz) 108 ls st h c n = (o_call 0 0 3 0 0 (mx_rv 10) (S_Mo_fit zz)) r (mx_G r (t_Mo_event zz)) 108 ls st h c n := mx_G_eq (tm_Mo_event zz) r 108 ls st h c n
theorem st_Mo_event_111 (zz : Nat × Nat) (r : mx_T) (ls : mx_L) (st : List Value) (h : mx_H) (c n : Nat) : mx_G r (t_Mo_event zz) 111 ls st h c n = (o_if 124 (fun x => x = 0)) r (mx_G r (t_Mo_event zz)) 111 ls st h c n := mx_G_eq (tm_Mo_event zz) r 111 ls st h c n
theorem st_Mo_event_114 (zz : Nat × Nat) (r : mx_T) (ls : mx_L) (st : List Value) (h : mx_H) (c n : Nat) : mx_G r (t_Mo_event zz) 114 ls st h c n = (o_aload 1 0) r (mx_G r (t_Mo_event zz)) 114 ls st h c n := mx_G_eq (tm_Mo_event zz) r 114 ls st h c n
theorem st_Mo_event_115 (zz : Nat × Nat) (r : mx_T) (ls : mx_L) (st : List Value) (h : mx_H) (c n : Nat) : mx_G r (t_Mo_event zz) 115 ls st h c n = (o_iload 1 3) r (mx_G r (t_Mo_event zz)) 115 ls st h c n := mx_G_eq (tm_Mo_event zz) r 115 ls st h c n
theorem st_Mo_event_116 (zz : Nat × Nat) (r : mx_T) (ls : mx_L) (st : List Value) (h : mx_H) (c n : Nat) : mx_G r (t_Mo_event zz) 116 ls st h c n = (o_iload 2 4) r (mx_G r (t_Mo_event zz)) 116 ls st h c n := mx_G_eq (tm_Mo_event zz) r 116 ls st h c n
theorem st_Mo_event_118 (zz : Nat × Nat) (r : mx_T) (ls : mx_L) (st : List Value) (h : mx_H) (c n : Nat) : mx_G r (t_Mo_event zz) 118 ls st h c n = (o_call 0 0 3 0 0 (mx_rv 10) (S_Mo_fit zz)) r (mx_G r (t_Mo_event zz)) 118 ls st h c n := mx_G_eq (tm_Mo_event zz) r 118 ls st h c n
theorem st_Mo_event_121 (zz : Nat × Nat) (r : mx_T) (ls : mx_L) (st : List Value) (h : mx_H) (c n : Nat) : mx_G r (t_Mo_event zz) 121 ls st h c n = (o_if 126 (fun x => ¬ x = 0)) r (mx_G r (t_Mo_event zz)) 121 ls st h c n := mx_G_eq (tm_Mo_event zz) r 121 ls st h c n
theorem st_Mo_event_124 (zz : Nat × Nat) (r : mx_T) (ls : mx_L) (st : List Value) (h : mx_H) (c n : Nat) : mx_G r (t_Mo_event zz) 124 ls st h c n = (o_push 1 (.int (-1))) r (mx_G r (t_Mo_event zz)) 124 ls st h c n := mx_G_eq (tm_Mo_event zz) r 124 ls st h c n
theorem st_Mo_event_125 (zz : Nat × Nat) (r : mx_T) (ls : mx_L) (st : List Value) (h : mx_H) (c n : Nat) : mx_G r (t_Mo_event zz) 125 ls st h c n = (o_iret) r (mx_G r (t_Mo_event zz)) 125 ls st h c n := mx_G_eq (tm_Mo_event zz) r 125 ls st h c n
theorem st_Mo_event_126 (zz : Nat × Nat) (r : mx_T) (ls : mx_L) (st : List Value) (h : mx_H) (c n : Nat) : mx_G r (t_Mo_event zz) 126 ls st h c n = (o_aload 1 0) r (mx_G r (t_Mo_event zz)) 126 ls st h c n := mx_G_eq (tm_Mo_event zz) r 126 ls st h c n
theorem st_Mo_event_127 (zz : Nat × Nat) (r : mx_T) (ls : mx_L) (st : List Value) (h : mx_H) (c n : Nat) : mx_G r (t_Mo_event zz) 127 ls st h c n = (o_get 10 17) r (mx_G r (t_Mo_event zz)) 127 ls st h c n := mx_G_eq (tm_Mo_event zz) r 127 ls st h c n
theorem st_Mo_event_130 (zz : Nat × Nat) (r : mx_T) (ls : mx_L) (st : List Value) (h : mx_H) (c n : Nat) : mx_G r (t_Mo_event zz) 130 ls st h c n = (o_aload 1 0) r (mx_G r (t_Mo_event zz)) 130 ls st h c n := mx_G_eq (tm_Mo_event zz) r 130 ls st h c n
theorem st_Mo_event_131 (zz : Nat × Nat) (r : mx_T) (ls : mx_L) (st : List Value) (h : mx_H) (c n : Nat) : mx_G r (t_Mo_event zz) 131 ls st h c n = (o_get 10 16) r (mx_G r (t_Mo_event zz)) 131 ls st h c n := mx_G_eq (tm_Mo_event zz) r 131 ls st h c n
theorem st_Mo_event_134 (zz : Nat × Nat) (r : mx_T) (ls : mx_L) (st : List Value) (h : mx_H) (c n : Nat) : mx_G r (t_Mo_event zz) 134 ls st h c n = (o_iload 1 1) r (mx_G r (t_Mo_event zz)) 134 ls st h c n := mx_G_eq (tm_Mo_event zz) r 134 ls st h c n
theorem st_Mo_event_135 (zz : Nat × Nat) (r : mx_T) (ls : mx_L) (st : List Value) (h : mx_H) (c n : Nat) : mx_G r (t_Mo_event zz) 135 ls st h c n = (o_iast .int (fun x => x)) r (mx_G r (t_Mo_event zz)) 135 ls st h c n := mx_G_eq (tm_Mo_event zz) r 135 ls st h c n
theorem st_Mo_event_136 (zz : Nat × Nat) (r : mx_T) (ls : mx_L) (st : List Value) (h : mx_H) (c n : Nat) : mx_G r (t_Mo_event zz) 136 ls st h c n = (o_aload 1 0) r (mx_G r (t_Mo_event zz)) 136 ls st h c n := mx_G_eq (tm_Mo_event zz) r 136 ls st h c n
theorem st_Mo_event_137 (zz : Nat × Nat) (r : mx_T) (ls : mx_L) (st : List Value) (h : mx_H) (c n : Nat) : mx_G r (t_Mo_event zz) 137 ls st h c n = (o_get 10 19) r (mx_G r (t_Mo_event zz)) 137 ls st h c n := mx_G_eq (tm_Mo_event zz) r 137 ls st h c n
theorem st_Mo_event_140 (zz : Nat × Nat) (r : mx_T) (ls : mx_L) (st : List Value) (h : mx_H) (c n : Nat) : mx_G r (t_Mo_event zz) 140 ls st h c n = (o_aload 1 0) r (mx_G r (t_Mo_event zz)) 140 ls st h c n := mx_G_eq (tm_Mo_event zz) r 140 ls st h c n
theorem st_Mo_event_141 (zz : Nat × Nat) (r : mx_T) (ls : mx_L) (st : List Value) (h : mx_H) (c n : Nat) : mx_G r (t_Mo_event zz) 141 ls st h c n = (o_get 10 16) r (mx_G r (t_Mo_event zz)) 141 ls st h c n := mx_G_eq (tm_Mo_event zz) r 141 ls st h c n
theorem st_Mo_event_144 (zz : Nat × Nat) (r : mx_T) (ls : mx_L) (st : List Value) (h : mx_H) (c n : Nat) : mx_G r (t_Mo_event zz) 144 ls st h c n = (o_iload 2 5) r (mx_G r (t_Mo_event zz)) 144 ls st h c n := mx_G_eq (tm_Mo_event zz) r 144 ls st h c n
theorem st_Mo_event_146 (zz : Nat × Nat) (r : mx_T) (ls : mx_L) (st : List Value) (h : mx_H) (c n : Nat) : mx_G r (t_Mo_event zz) 146 ls st h c n = (o_iast .int (fun x => x)) r (mx_G r (t_Mo_event zz)) 146 ls st h c n := mx_G_eq (tm_Mo_event zz) r 146 ls st h c n
theorem st_Mo_event_147 (zz : Nat × Nat) (r : mx_T) (ls : mx_L) (st : List Value) (h : mx_H) (c n : Nat) : mx_G r (t_Mo_event zz) 147 ls st h c n = (o_aload 1 0) r (mx_G r (t_Mo_event zz)) 147 ls st h c n := mx_G_eq (tm_Mo_event zz) r 147 ls st h c n
theorem st_Mo_event_148 (zz : Nat × Nat) (r : mx_T) (ls : mx_L) (st : List Value) (h : mx_H) (c n : Nat) : mx_G r (t_Mo_event zz) 148 ls st h c n = (o_get 10 18) r (mx_G r (t_Mo_event zz)) 148 ls st h c n := mx_G_eq (tm_Mo_event zz) r 148 ls st h c n
theorem st_Mo_event_151 (zz : Nat × Nat) (r : mx_T) (ls : mx_L) (st : List Value) (h : mx_H) (c n : Nat) : mx_G r (t_Mo_event zz) 151 ls st h c n = (o_push 1 (.int 3)) r (mx_G r (t_Mo_event zz)) 151 ls st h c n := mx_G_eq (tm_Mo_event zz) r 151 ls st h c n
theorem st_Mo_event_152 (zz : Nat × Nat) (r : mx_T) (ls : mx_L) (st : List Value) (h : mx_H) (c n : Nat) : mx_G r (t_Mo_event zz) 152 ls st h c n = (o_aload 1 0) r (mx_G r (t_Mo_event zz)) 152 ls st h c n := mx_G_eq (tm_Mo_event zz) r 152 ls st h c n
theorem st_Mo_event_153 (zz : Nat × Nat) (r : mx_T) (ls : mx_L) (st : List Value) (h : mx_H) (c n : Nat) : mx_G r (t_Mo_event zz) 153 ls st h c n = (o_get 10 16) r (mx_G r (t_Mo_event zz)) 153 ls st h c n := mx_G_eq (tm_Mo_event zz) r 153 ls st h c n
theorem st_Mo_event_156 (zz : Nat × Nat) (r : mx_T) (ls : mx_L) (st : List Value) (h : mx_H) (c n : Nat) : mx_G r (t_Mo_event zz) 156 ls st h c n = (o_ii (fun x y => x * y)) r (mx_G r (t_Mo_event zz)) 156 ls st h c n := mx_G_eq (tm_Mo_event zz) r 156 ls st h c n
theorem st_Mo_event_157 (zz : Nat × Nat) (r : mx_T) (ls : mx_L) (st : List Value) (h : mx_H) (c n : Nat) : mx_G r (t_Mo_event zz) 157 ls st h c n = (o_iload 1 2) r (mx_G r (t_Mo_event zz)) 157 ls st h c n := mx_G_eq (tm_Mo_event zz) r 157 ls st h c n
theorem st_Mo_event_158 (zz : Nat × Nat) (r : mx_T) (ls : mx_L) (st : List Value) (h : mx_H) (c n : Nat) : mx_G r (t_Mo_event zz) 158 ls st h c n = (o_iast .int (fun x => x)) r (mx_G r (t_Mo_event zz)) 158 ls st h c n := mx_G_eq (tm_Mo_event zz) r 158 ls st h c n
theorem st_Mo_event_159 (zz : Nat × Nat) (r : mx_T) (ls : mx_L) (st : List Value) (h : mx_H) (c n : Nat) : mx_G r (t_Mo_event zz) 159 ls st h c n = (o_aload 1 0) r (mx_G r (t_Mo_event zz)) 159 ls st h c n := mx_G_eq (tm_Mo_event zz) r 159 ls st h c n
theorem st_Mo_event_160 (zz : Nat × Nat) (r : mx_T) (ls : mx_L) (st : List Value) (h : mx_H) (c n : Nat) : mx_G r (t_Mo_event zz) 160 ls st h c n = (o_get 10 18) r (mx_G r (t_Mo_event zz)) 160 ls st h c n := mx_G_eq (tm_Mo_event zz) r 160 ls st h c n
theorem st_Mo_event_163 (zz : Nat × Nat) (r : mx_T) (ls : mx_L) (st : List Value) (h : mx_H) (c n : Nat) : mx_G r (t_Mo_event zz) 163 ls st h c n = (o_push 1 (.int 3)) r (mx_G r (t_Mo_event zz)) 163 ls st h c n := mx_G_eq (tm_Mo_event zz) r 163 ls st h c n
theorem st_Mo_event_164 (zz : Nat × Nat) (r : mx_T) (ls : mx_L) (st : List Value) (h : mx_H) (c n : Nat) : mx_G r (t_Mo_event zz) 164 ls st h c n = (o_aload 1 0) r (mx_G r (t_Mo_event zz)) 164 ls st h c n := mx_G_eq (tm_Mo_event zz) r 164 ls st h c n
theorem st_Mo_event_165 (zz : Nat × Nat) (r : mx_T) (ls : mx_L) (st : List Value) (h : mx_H) (c n : Nat) : mx_G r (t_Mo_event zz) 165 ls st h c n = (o_get 10 16) r (mx_G r (t_Mo_event zz)) 165 ls st h c n := mx_G_eq (tm_Mo_event zz) r 165 ls st h c n
theorem st_Mo_event_168 (zz : Nat × Nat) (r : mx_T) (ls : mx_L) (st : List Value) (h : mx_H) (c n : Nat) : mx_G r (t_Mo_event zz) 168 ls st h c n = (o_ii (fun x y => x * y)) r (mx_G r (t_Mo_event zz)) 168 ls st h c n := mx_G_eq (tm_Mo_event zz) r 168 ls st h c n
set_option maxRecDepth 20000 in
theorem st_Mo_event_169 (zz : Nat × Nat) (r : mx_T) (ls : mx_L) (st : List Value) (h : mx_H) (c n : Nat) : mx_G r (t_Mo_event zz) 169 ls st h c n = (o_push 1 (.int 1)) r (mx_G r (t_Mo_event zz)) 169 ls st h c n := mx_G_eq (tm_Mo_event zz) r 169 ls st h c n
set_option maxRecDepth 20000 in
theorem st_Mo_event_170 (zz : Nat × Nat) (r : mx_T) (ls : mx_L) (st : List Value) (h : mx_H) (c n : Nat) : mx_G r (t_Mo_event zz) 170 ls st h c n = (o_ii (fun x y => x + y)) r (mx_G r (t_Mo_event zz)) 170 ls st h c n := mx_G_eq (tm_Mo_event zz) r 170 ls st h c n
set_option maxRecDepth 20000 in
theorem st_Mo_event_171 (zz : Nat × Nat) (r : mx_T) (ls : mx_L) (st : List Value) (h : mx_H) (c n : Nat) : mx_G r (t_Mo_event zz) 171 ls st h c n = (o_iload 1 3) r (mx_G r (t_Mo_event zz)) 171 ls st h c n := mx_G_eq (tm_Mo_event zz) r 171 ls st h c n
set_option maxRecDepth 20000 in
theorem st_Mo_event_172 (zz : Nat × Nat) (r : mx_T) (ls : mx_L) (st : List Value) (h : mx_H) (c n : Nat) : mx_G r (t_Mo_event zz) 172 ls st h c n = (o_iast .int (fun x => x)) r (mx_G r (t_Mo_event zz)) 172 ls st h c n := mx_G_eq (tm_Mo_event zz) r 172 ls st h c n
set_option maxRecDepth 20000 in
theorem st_Mo_event_173 (zz : Nat × Nat) (r : mx_T) (ls : mx_L) (st : List Value) (h : mx_H) (c n : Nat) : mx_G r (t_Mo_event zz) 173 ls st h c n = (o_aload 1 0) r (mx_G r (t_Mo_event zz)) 173 ls st h c n := mx_G_eq (tm_Mo_event zz) r 173 ls st h c n
set_option maxRecDepth 20000 in
theorem st_Mo_event_174 (zz : Nat × Nat) (r : mx_T) (ls : mx_L) (st : List Value) (h : mx_H) (c n : Nat) : mx_G r (t_Mo_event zz) 174 ls st h c n = (o_get 10 18) r (mx_G r (t_Mo_event zz)) 174 ls st h c n := mx_G_eq (tm_Mo_event zz) r 174 ls st h c n
set_option maxRecDepth 20000 in
theorem st_Mo_event_177 (zz : Nat × Nat) (r : mx_T) (ls : mx_L) (st : List Value) (h : mx_H) (c n : Nat) : mx_G r (t_Mo_event zz) 177 ls st h c n = (o_push 1 (.int 3)) r (mx_G r (t_Mo_event zz)) 177 ls st h c n := mx_G_eq (tm_Mo_event zz) r 177 ls st h c n
set_option maxRecDepth 20000 in
theorem st_Mo_event_178 (zz : Nat × Nat) (r : mx_T) (ls : mx_L) (st : List Value) (h : mx_H) (c n : Nat) : mx_G r (t_Mo_event zz) 178 ls st h c n = (o_aload 1 0) r (mx_G r (t_Mo_event zz)) 178 ls st h c n := mx_G_eq (tm_Mo_event zz) r 178 ls st h c n
set_option maxRecDepth 20000 in
theorem st_Mo_event_179 (zz : Nat × Nat) (r : mx_T) (ls : mx_L) (st : List Value) (h : mx_H) (c n : Nat) : mx_G r (t_Mo_event zz) 179 ls st h c n = (o_get 10 16) r (mx_G r (t_Mo_event zz)) 179 ls st h c n := mx_G_eq (tm_Mo_event zz) r 179 ls st h c n
set_option maxRecDepth 20000 in
theorem st_Mo_event_182 (zz : Nat × Nat) (r : mx_T) (ls : mx_L) (st : List Value) (h : mx_H) (c n : Nat) : mx_G r (t_Mo_event zz) 182 ls st h c n = (o_ii (fun x y => x * y)) r (mx_G r (t_Mo_event zz)) 182 ls st h c n := mx_G_eq (tm_Mo_event zz) r 182 ls st h c n
set_option maxRecDepth 20000 in
theorem st_Mo_event_183 (zz : Nat × Nat) (r : mx_T) (ls : mx_L) (st : List Value) (h : mx_H) (c n : Nat) : mx_G r (t_Mo_event zz) 183 ls st h c n = (o_push 1 (.int 2)) r (mx_G r (t_Mo_event zz)) 183 ls st h c n := mx_G_eq (tm_Mo_event zz) r 183 ls st h c n
set_option maxRecDepth 20000 in
theorem st_Mo_event_184 (zz : Nat × Nat) (r : mx_T) (ls : mx_L) (st : List Value) (h : mx_H) (c n : Nat) : mx_G r (t_Mo_event zz) 184 ls st h c n = (o_ii (fun x y => x + y)) r (mx_G r (t_Mo_event zz)) 184 ls st h c n := mx_G_eq (tm_Mo_event zz) r 184 ls st h c n
set_option maxRecDepth 20000 in
theorem st_Mo_event_185 (zz : Nat × Nat) (r : mx_T) (ls : mx_L) (st : List Value) (h : mx_H) (c n : Nat) : mx_G r (t_Mo_event zz) 185 ls st h c n = (o_iload 2 4) r (mx_G r (t_Mo_event zz)) 185 ls st h c n := mx_G_eq (tm_Mo_event zz) r 185 ls st h c n
set_option maxRecDepth 20000 in
theorem st_Mo_event_187 (zz : Nat × Nat) (r : mx_T) (ls : mx_L) (st : List Value) (h : mx_H) (c n : Nat) : mx_G r (t_Mo_event zz) 187 ls st h c n = (o_iast .int (fun x => x)) r (mx_G r (t_Mo_event zz)) 187 ls st h c n := mx_G_eq (tm_Mo_event zz) r 187 ls st h c n
set_option maxRecDepth 20000 in
theorem st_Mo_event_188 (zz : Nat × Nat) (r : mx_T) (ls : mx_L) (st : List Value) (h : mx_H) (c n : Nat) : mx_G r (t_Mo_event zz) 188 ls st h c n = (o_aload 1 0) r (mx_G r (t_Mo_event zz)) 188 ls st h c n := mx_G_eq (tm_Mo_event zz) r 188 ls st h c n
set_option maxRecDepth 20000 in
theorem st_Mo_event_189 (zz : Nat × Nat) (r : mx_T) (ls : mx_L) (st : List Value) (h : mx_H) (c n : Nat) : mx_G r (t_Mo_event zz) 189 ls st h c n = (o_dup) r (mx_G r (t_Mo_event zz)) 189 ls st h c n := mx_G_eq (tm_Mo_event zz) r 189 ls st h c n
set_option maxRecDepth 20000 in
theorem st_Mo_event_190 (zz : Nat × Nat) (r : mx_T) (ls : mx_L) (st : List Value) (h : mx_H) (c n : Nat) : mx_G r (t_Mo_event zz) 190 ls st h c n = (o_get 10 16) r (mx_G r (t_Mo_event zz)) 190 ls st h c n := mx_G_eq (tm_Mo_event zz) r 190 ls st h c n
set_option maxRecDepth 20000 in
theorem st_Mo_event_193 (zz : Nat × Nat) (r : mx_T) (ls : mx_L) (st : List Value) (h : mx_H) (c n : Nat) : mx_G r (t_Mo_event zz) 193 ls st h c n = (o_push 1 (.int 1)) r (mx_G r (t_Mo_event zz)) 193 ls st h c n := mx_G_eq (tm_Mo_event zz) r 193 ls st h c n
set_option maxRecDepth 20000 in
theorem st_Mo_event_194 (zz : Nat × Nat) (r : mx_T) (ls : mx_L) (st : List Value) (h : mx_H) (c n : Nat) : mx_G r (t_Mo_event zz) 194 ls st h c n = (o_ii (fun x y => x + y)) r (mx_G r (t_Mo_event zz)) 194 ls st h c n := mx_G_eq (tm_Mo_event zz) r 194 ls st h c n
set_option maxRecDepth 20000 in
theorem st_Mo_event_195 (zz : Nat × Nat) (r : mx_T) (ls : mx_L) (st : List Value) (h : mx_H) (c n : Nat) : mx_G r (t_Mo_event zz) 195 ls st h c n = (o_put 10 16 mx_vI) r (mx_G r (t_Mo_event zz)) 195 ls st h c n := mx_G_eq (tm_Mo_event zz) r 195 ls st h c n
set_option maxRecDepth 20000 in
theorem st_Mo_event_198 (zz : Nat × Nat) (r : mx_T) (ls : mx_L) (st : List Value) (h : mx_H) (c n : Nat) : mx_G r (t_Mo_event zz) 198 ls st h c n = (o_aload 1 0) r (mx_G r (t_Mo_event zz)) 198 ls st h c n := mx_G_eq (tm_Mo_event zz) r 198 ls st h c n
set_option maxRecDepth 20000 in
theorem st_Mo_event_199 (zz : Nat × Nat) (r : mx_T) (ls : mx_L) (st : List Value) (h : mx_H) (c n : Nat) : mx_G r (t_Mo_event zz) 199 ls st h c n = (o_get 10 6) r (mx_G r (t_Mo_event zz)) 199 ls st h c n := mx_G_eq (tm_Mo_event zz) r 199 ls st h c n
set_option maxRecDepth 20000 in
theorem st_Mo_event_202 (zz : Nat × Nat) (r : mx_T) (ls : mx_L) (st : List Value) (h : mx_H) (c n : Nat) : mx_G r (t_Mo_event zz) 202 ls st h c n = (o_iload 1 2) r (mx_G r (t_Mo_event zz)) 202 ls st h c n := mx_G_eq (tm_Mo_event zz) r 202 ls st h c n
set_option maxRecDepth 20000 in
theorem st_Mo_event_203 (zz : Nat × Nat) (r : mx_T) (ls : mx_L) (st : List Value) (h : mx_H) (c n : Nat) : mx_G r (t_Mo_event zz) 203 ls st h c n = (o_aload 1 0) r (mx_G r (t_Mo_event zz)) 203 ls st h c n := mx_G_eq (tm_Mo_event zz) r 203 ls st h c n
set_option maxRecDepth 20000 in
theorem st_Mo_event_204 (zz : Nat × Nat) (r : mx_T) (ls : mx_L) (st : List Value) (h : mx_H) (c n : Nat) : mx_G r (t_Mo_event zz) 204 ls st h c n = (o_get 10 16) r (mx_G r (t_Mo_event zz)) 204 ls st h c n := mx_G_eq (tm_Mo_event zz) r 204 ls st h c n
set_option maxRecDepth 20000 in
theorem st_Mo_event_207 (zz : Nat × Nat) (r : mx_T) (ls : mx_L) (st : List Value) (h : mx_H) (c n : Nat) : mx_G r (t_Mo_event zz) 207 ls st h c n = (o_iast .int (fun x => x)) r (mx_G r (t_Mo_event zz)) 207 ls st h c n := mx_G_eq (tm_Mo_event zz) r 207 ls st h c n
set_option maxRecDepth 20000 in
theorem st_Mo_event_208 (zz : Nat × Nat) (r : mx_T) (ls : mx_L) (st : List Value) (h : mx_H) (c n : Nat) : mx_G r (t_Mo_event zz) 208 ls st h c n = (o_aload 1 0) r (mx_G r (t_Mo_event zz)) 208 ls st h c n := mx_G_eq (tm_Mo_event zz) r 208 ls st h c n
set_option maxRecDepth 20000 in
theorem st_Mo_event_209 (zz : Nat × Nat) (r : mx_T) (ls : mx_L) (st : List Value) (h : mx_H) (c n : Nat) : mx_G r (t_Mo_event zz) 209 ls st h c n = (o_get 10 6) r (mx_G r (t_Mo_event zz)) 209 ls st h c n := mx_G_eq (tm_Mo_event zz) r 209 ls st h c n
set_option maxRecDepth 20000 in
theorem st_Mo_event_212 (zz : Nat × Nat) (r : mx_T) (ls : mx_L) (st : List Value) (h : mx_H) (c n : Nat) : mx_G r (t_Mo_event zz) 212 ls st h c n = (o_iload 1 3) r (mx_G r (t_Mo_event zz)) 212 ls st h c n := mx_G_eq (tm_Mo_event zz) r 212 ls st h c n
set_option maxRecDepth 20000 in
theorem st_Mo_event_213 (zz : Nat × Nat) (r : mx_T) (ls : mx_L) (st : List Value) (h : mx_H) (c n : Nat) : mx_G r (t_Mo_event zz) 213 ls st h c n = (o_aload 1 0) r (mx_G r (t_Mo_event zz)) 213 ls st h c n := mx_G_eq (tm_Mo_event zz) r 213 ls st h c n
set_option maxRecDepth 20000 in
theorem st_Mo_event_214 (zz : Nat × Nat) (r : mx_T) (ls : mx_L) (st : List Value) (h : mx_H) (c n : Nat) : mx_G r (t_Mo_event zz) 214 ls st h c n = (o_get 10 16) r (mx_G r (t_Mo_event zz)) 214 ls st h c n := mx_G_eq (tm_Mo_event zz) r 214 ls st h c n
set_option maxRecDepth 20000 in
theorem st_Mo_event_217 (zz : Nat × Nat) (r : mx_T) (ls : mx_L) (st : List Value) (h : mx_H) (c n : Nat) : mx_G r (t_Mo_event zz) 217 ls st h c n = (o_iast .int (fun x => x)) r (mx_G r (t_Mo_event zz)) 217 ls st h c n := mx_G_eq (tm_Mo_event zz) r 217 ls st h c n
set_option maxRecDepth 20000 in
theorem st_Mo_event_218 (zz : Nat × Nat) (r : mx_T) (ls : mx_L) (st : List Value) (h : mx_H) (c n : Nat) : mx_G r (t_Mo_event zz) 218 ls st h c n = (o_iload 2 6) r (mx_G r (t_Mo_event zz)) 218 ls st h c n := mx_G_eq (tm_Mo_event zz) r 218 ls st h c n
set_option maxRecDepth 20000 in
theorem st_Mo_event_220 (zz : Nat × Nat) (r : mx_T) (ls : mx_L) (st : List Value) (h : mx_H) (c n : Nat) : mx_G r (t_Mo_event zz) 220 ls st h c n = (o_if 234 (fun x => x = 0)) r (mx_G r (t_Mo_event zz)) 220 ls st h c n := mx_G_eq (tm_Mo_event zz) r 220 ls st h c n
set_option maxRecDepth 20000 in
theorem st_Mo_event_223 (zz : Nat × Nat) (r : mx_T) (ls : mx_L) (st : List Value) (h : mx_H) (c n : Nat) : mx_G r (t_Mo_event zz) 223 ls st h c n = (o_aload 1 0) r (mx_G r (t_Mo_event zz)) 223 ls st h c n := mx_G_eq (tm_Mo_event zz) r 223 ls st h c n
set_option maxRecDepth 20000 in
theorem st_Mo_event_224 (zz : Nat × Nat) (r : mx_T) (ls : mx_L) (st : List Value) (h : mx_H) (c n : Nat) : mx_G r (t_Mo_event zz) 224 ls st h c n = (o_get 10 6) r (mx_G r (t_Mo_event zz)) 224 ls st h c n := mx_G_eq (tm_Mo_event zz) r 224 ls st h c n
set_option maxRecDepth 20000 in
theorem st_Mo_event_227 (zz : Nat × Nat) (r : mx_T) (ls : mx_L) (st : List Value) (h : mx_H) (c n : Nat) : mx_G r (t_Mo_event zz) 227 ls st h c n = (o_iload 2 4) r (mx_G r (t_Mo_event zz)) 227 ls st h c n := mx_G_eq (tm_Mo_event zz) r 227 ls st h c n
set_option maxRecDepth 20000 in
theorem st_Mo_event_229 (zz : Nat × Nat) (r : mx_T) (ls : mx_L) (st : List Value) (h : mx_H) (c n : Nat) : mx_G r (t_Mo_event zz) 229 ls st h c n = (o_aload 1 0) r (mx_G r (t_Mo_event zz)) 229 ls st h c n := mx_G_eq (tm_Mo_event zz) r 229 ls st h c n
set_option maxRecDepth 20000 in
theorem st_Mo_event_230 (zz : Nat × Nat) (r : mx_T) (ls : mx_L) (st : List Value) (h : mx_H) (c n : Nat) : mx_G r (t_Mo_event zz) 230 ls st h c n = (o_get 10 16) r (mx_G r (t_Mo_event zz)) 230 ls st h c n := mx_G_eq (tm_Mo_event zz) r 230 ls st h c n
set_option maxRecDepth 20000 in
theorem st_Mo_event_233 (zz : Nat × Nat) (r : mx_T) (ls : mx_L) (st : List Value) (h : mx_H) (c n : Nat) : mx_G r (t_Mo_event zz) 233 ls st h c n = (o_iast .int (fun x => x)) r (mx_G r (t_Mo_event zz)) 233 ls st h c n := mx_G_eq (tm_Mo_event zz) r 233 ls st h c n
set_option maxRecDepth 20000 in
theorem st_Mo_event_234 (zz : Nat × Nat) (r : mx_T) (ls : mx_L) (st : List Value) (h : mx_H) (c n : Nat) : mx_G r (t_Mo_event zz) 234 ls st h c n = (o_aload 1 0) r (mx_G r (t_Mo_event zz)) 234 ls st h c n := mx_G_eq (tm_Mo_event zz) r 234 ls st h c n
set_option maxRecDepth 20000 in
theorem st_Mo_event_235 (zz : Nat × Nat) (r : mx_T) (ls : mx_L) (st : List Value) (h : mx_H) (c n : Nat) : mx_G r (t_Mo_event zz) 235 ls st h c n = (o_get 10 16) r (mx_G r (t_Mo_event zz)) 235 ls st h c n := mx_G_eq (tm_Mo_event zz) r 235 ls st h c n
set_option maxRecDepth 20000 in
theorem st_Mo_event_238 (zz : Nat × Nat) (r : mx_T) (ls : mx_L) (st : List Value) (h : mx_H) (c n : Nat) : mx_G r (t_Mo_event zz) 238 ls st h c n = (o_push 1 (.int 1)) r (mx_G r (t_Mo_event zz)) 238 ls st h c n := mx_G_eq (tm_Mo_event zz) r 238 ls st h c n
set_option maxRecDepth 20000 in
theorem st_Mo_event_239 (zz : Nat × Nat) (r : mx_T) (ls : mx_L) (st : List Value) (h : mx_H) (c n : Nat) : mx_G r (t_Mo_event zz) 239 ls st h c n = (o_ii (fun x y => x - y)) r (mx_G r (t_Mo_event zz)) 239 ls st h c n := mx_G_eq (tm_Mo_event zz) r 239 ls st h c n
set_option maxRecDepth 20000 in
theorem st_Mo_event_240 (zz : Nat × Nat) (r : mx_T) (ls : mx_L) (st : List Value) (h : mx_H) (c n : Nat) : mx_G r (t_Mo_event zz) 240 ls st h c n = (o_iret) r (mx_G r (t_Mo_event zz)) 240 ls st h c n := mx_G_eq (tm_Mo_event zz) r 240 ls st h c n
theorem d_Mo_entry_0 : decode c_Mo_entry 0 = .ok (.aload_n 0, 1) := by decide +kernel
theorem d_Mo_entry_1 : decode c_Mo_entry 1 = .ok (.getfield 87, 3) := by decide +kernel
theorem d_Mo_entry_4 : decode c_Mo_entry 4 = .ok (.ifCond .ne 43, 3) := by decide +kernel
theorem d_Mo_entry_7 : decode c_Mo_entry 7 = .ok (.iload_n 1, 1) := by decide +kernel
theorem d_Mo_entry_8 : decode c_Mo_entry 8 = .ok (.iconst 0, 1) := by decide +kernel
theorem d_Mo_entry_9 : decode c_Mo_entry 9 = .ok (.iconst 2, 1) := by decide +kernel
theorem d_Mo_entry_10 : decode c_Mo_entry 10 = .ok (.invokestatic 91, 3) := by decide +kernel
theorem d_Mo_entry_13 : decode c_Mo_entry 13 = .ok (.ifCond .eq 34, 3) := by decide +kernel
theorem d_Mo_entry_16 : decode c_Mo_entry 16 = .ok (.aload_n 0, 1) := by decide +kernel
theorem d_Mo_entry_17 : decode c_Mo_entry 17 = .ok (.getfield 59, 3) := by decide +kernel
theorem d_Mo_entry_20 : decode c_Mo_entry 20 = .ok (.iload_n 1, 1) := by decide +kernel
theorem d_Mo_entry_21 : decode c_Mo_entry 21 = .ok (.iaload, 1) := by decide +kernel
theorem d_Mo_entry_22 : decode c_Mo_entry 22 = .ok (.bipush 8, 2) := by decide +kernel
theorem d_Mo_entry_24 : decode c_Mo_entry 24 = .ok (.if_icmp .eq 23, 3) := by decide +kernel
theorem d_Mo_entry_27 : decode c_Mo_entry 27 = .ok (.iload_n 2, 1) := by decide +kernel
theorem d_Mo_entry_28 : decode c_Mo_entry 28 = .ok (.iconst 0, 1) := by decide +kernel
theorem d_Mo_entry_29 : decode c_Mo_entry 29 = .ok (.iconst 2, 1) := by decide +kernel
theorem d_Mo_entry_30 : decode c_Mo_entry 30 = .ok (.invokestatic 91, 3) := by decide +kernel
theorem d_Mo_entry_33 : decode c_Mo_entry 33 = .ok (.ifCond .eq 14, 3) := by decide +kernel
theorem d_Mo_entry_36 : decode c_Mo_entry 36 = .ok (.iload 4, 2) := by decide +kernel
theorem d_Mo_entry_38 : decode c_Mo_entry 38 = .ok (.iconst 1, 1) := by decide +kernel
theorem d_Mo_entry_39 : decode c_Mo_entry 39 = .ok (.bipush 20, 2) := by decide +kernel
theorem d_Mo_entry_41 : decode c_Mo_entry 41 = .ok (.invokestatic 91, 3) := by decide +kernel
theorem d_Mo_entry_44 : decode c_Mo_entry 44 = .ok (.ifCond .ne 5, 3) := by decide +kernel
theorem d_Mo_entry_47 : decode c_Mo_entry 47 = .ok (.iconst 0, 1) := by decide +kernel
theorem d_Mo_entry_48 : decode c_Mo_entry 48 = .ok (.ireturn, 1) := by decide +kernel
theorem d_Mo_entry_49 : decode c_Mo_entry 49 = .ok (.iload_n 2, 1) := by decide +kernel
theorem d_Mo_entry_50 : decode c_Mo_entry 50 = .ok (.ifCond .ne 10, 3) := by decide +kernel
theorem d_Mo_entry_53 : decode c_Mo_entry 53 = .ok (.aload_n 0, 1) := by decide +kernel
theorem d_Mo_entry_54 : decode c_Mo_entry 54 = .ok (.getfield 81, 3) := by decide +kernel
theorem d_Mo_entry_57 : decode c_Mo_entry 57 = .ok (.goto 19, 3) := by decide +kernel
theorem d_Mo_entry_60 : decode c_Mo_entry 60 = .ok (.iload_n 2, 1) := by decide +kernel
theorem d_Mo_entry_61 : decode c_Mo_entry 61 = .ok (.iconst 1, 1) := by decide +kernel
theorem d_Mo_entry_62 : decode c_Mo_entry 62 = .ok (.if_icmp .ne 10, 3) := by decide +kernel
theorem d_Mo_entry_65 : decode c_Mo_entry 65 = .ok (.aload_n 0, 1) := by decide +kernel
theorem d_Mo_entry_66 : decode c_Mo_entry 66 = .ok (.getfield 109, 3) := by decide +kernel
theorem d_Mo_entry_69 : decode c_Mo_entry 69 = .ok (.goto 7, 3) := by decide +kernel
theorem d_Mo_entry_72 : decode c_Mo_entry 72 = .ok (.aload_n 0, 1) := by decide +kernel
theorem d_Mo_entry_73 : decode c_Mo_entry 73 = .ok (.getfield 84, 3) := by decide +kernel
theorem d_Mo_entry_76 : decode c_Mo_entry 76 = .ok (.istore 5, 2) := by decide +kernel
theorem d_Mo_entry_78 : decode c_Mo_entry 78 = .ok (.iload_n 3, 1) := by decide +kernel
theorem d_Mo_entry_79 : decode c_Mo_entry 79 = .ok (.iconst 0, 1) := by decide +kernel
theorem d_Mo_entry_80 : decode c_Mo_entry 80 = .ok (.iload 5, 2) := by decide +kernel
theorem d_Mo_entry_82 : decode c_Mo_entry 82 = .ok (.iconst 1, 1) := by decide +kernel
theorem d_Mo_entry_83 : decode c_Mo_entry 83 = .ok (.isub, 1) := by decide +kernel
theorem d_Mo_entry_84 : decode c_Mo_entry 84 = .ok (.invokestatic 91, 3) := by decide +kernel
theorem d_Mo_entry_87 : decode c_Mo_entry 87 = .ok (.ifCond .ne 5, 3) := by decide +kernel
theorem d_Mo_entry_90 : decode c_Mo_entry 90 = .ok (.iconst 0, 1) := by decide +kernel
theorem d_Mo_entry_91 : decode c_Mo_entry 91 = .ok (.ireturn, 1) := by decide +kernel
theorem d_Mo_entry_92 : decode c_Mo_entry 92 = .ok (.bipush 8, 2) := by decide +kernel
theorem d_Mo_entry_94 : decode c_Mo_entry 94 = .ok (.iload_n 1, 1) := by decide +kernel
theorem d_Mo_entry_95 : decode c_Mo_entry 95 = .ok (.imul, 1) := by decide +kernel
theorem d_Mo_entry_96 : decode c_Mo_entry 96 = .ok (.aload_n 0, 1) := by decide +kernel
theorem d_Mo_entry_97 : decode c_Mo_entry 97 = .ok (.getfield 59, 3) := by decide +kernel
theorem d_Mo_entry_100 : decode c_Mo_entry 100 = .ok (.iload_n 1, 1) := by decide +kernel
theorem d_Mo_entry_101 : decode c_Mo_entry 101 = .ok (.iaload, 1) := by decide +kernel
theorem d_Mo_entry_102 : decode c_Mo_entry 102 = .ok (.iadd, 1) := by decide +kernel
theorem d_Mo_entry_103 : decode c_Mo_entry 103 = .ok (.istore 6, 2) := by decide +kernel
theorem d_Mo_entry_105 : decode c_Mo_entry 105 = .ok (.aload_n 0, 1) := by decide +kernel
theorem d_Mo_entry_106 : decode c_Mo_entry 106 = .ok (.getfield 62, 3) := by decide +kernel
theorem d_Mo_entry_109 : decode c_Mo_entry 109 = .ok (.iload 6, 2) := by decide +kernel
theorem d_Mo_entry_111 : decode c_Mo_entry 111 = .ok (.iload_n 2, 1) := by decide +kernel
theorem d_Mo_entry_112 : decode c_Mo_entry 112 = .ok (.iastore, 1) := by decide +kernel
theorem d_Mo_entry_113 : decode c_Mo_entry 113 = .ok (.aload_n 0, 1) := by decide +kernel
theorem d_Mo_entry_114 : decode c_Mo_entry 114 = .ok (.getfield 65, 3) := by decide +kernel
theorem d_Mo_entry_117 : decode c_Mo_entry 117 = .ok (.iload 6, 2) := by decide +kernel
theorem d_Mo_entry_119 : decode c_Mo_entry 119 = .ok (.iload_n 3, 1) := by decide +kernel
theorem d_Mo_entry_120 : decode c_Mo_entry 120 = .ok (.iastore, 1) := by decide +kernel
theorem d_Mo_entry_121 : decode c_Mo_entry 121 = .ok (.aload_n 0, 1) := by decide +kernel
theorem d_Mo_entry_122 : decode c_Mo_entry 122 = .ok (.getfield 68, 3) := by decide +kernel
theorem d_Mo_entry_125 : decode c_Mo_entry 125 = .ok (.iload 6, 2) := by decide +kernel
theorem d_Mo_entry_127 : decode c_Mo_entry 127 = .ok (.iload 4, 2) := by decide +kernel
theorem d_Mo_entry_129 : decode c_Mo_entry 129 = .ok (.iastore, 1) := by decide +kernel
theorem d_Mo_entry_130 : decode c_Mo_entry 130 = .ok (.aload_n 0, 1) := by decide +kernel
theorem d_Mo_entry_131 : decode c_Mo_entry 131 = .ok (.getfield 59, 3) := by decide +kernel
theorem d_Mo_entry_134 : decode c_Mo_entry 134 = .ok (.iload_n 1, 1) := by decide +kernel
theorem d_Mo_entry_135 : decode c_Mo_entry 135 = .ok (.aload_n 0, 1) := by decide +kernel
theorem d_Mo_entry_136 : decode c_Mo_entry 136 = .ok (.getfield 59, 3) := by decide +kernel
theorem d_Mo_entry_139 : decode c_Mo_entry 139 = .ok (.iload_n 1, 1) := by decide +kernel
theorem d_Mo_entry_140 : decode c_Mo_entry 140 = .ok (.iaload, 1) := by decide +kernel
theorem d_Mo_entry_141 : decode c_Mo_entry 141 = .ok (.iconst 1, 1) := by decide +kernel
theorem d_Mo_entry_142 : decode c_Mo_entry 142 = .ok (.iadd, 1) := by decide +kernel
theorem d_Mo_entry_143 : decode c_Mo_entry 143 = .ok (.iastore, 1) := by decide +kernel
theorem d_Mo_entry_144 : decode c_Mo_entry 144 = .ok (.iconst 1, 1) := by decide +kernel
theorem d_Mo_entry_145 : decode c_Mo_entry 145 = .ok (.ireturn, 1) := by decide +kernel
def t_Mo_entry (zz : Nat × Nat) : List (Nat × mx_O) := [(0, o_aload 1 0),
  (1, o_get 10 24),
  (4, o_if 47 (fun x => ¬ x = 0)),
  (7, o_iload 1 1),
  (8, o_push 1 (.int 0)),
  (9, o_push 1 (.int 2)),
  (10, o_call 0 0 3 0 0 (fun _ _ => True) (S_Mo_within zz)),
  (13, o_if 47 (fun x => x = 0)),
  (16, o_aload 1 0),
  (17, o_get 10 20),
  (20, o_iload 1 1),
  (21, o_iald .int),
  (22, o_push 2 (.int 8)),
  (24, o_icmp 47 (fun x y => x = y)),
  (27, o_iload 1 2),
  (28, o_push 1 (.int 0)),
  (29, o_push 1 (.int 2)),
  (30, o_call 0 0 3 0 0 (fun _ _ => True) (S_Mo_within zz)),
  (33, o_if 47 (fun x => x = 0)),
  (36, o_iload 2 4),
  (38, o_push 1 (.int 1)),
  (39, o_push 2 (.int 20)),
  (41, o_call 0 0 3 0 0 (fun _ _ => True) (S_Mo_within zz)),
  (44, o_if 49 (fun x => ¬ x = 0)),
  (47, o_push 1 (.int 0)),
  (48, o_zret),
  (49, o_iload 1 2),
  (50, o_if 60 (fun x => ¬ x = 0)),
  (53, o_aload 1 0),
  (54, o_get 10 0),
  (57, o_goto 76),
  (60, o_iload 1 2),
  (61, o_push 1 (.int 1)),
  (62, o_icmp 72 (fun x y => ¬ x = y)),
  (65, o_aload 1 0),
  (66, o_get 10 14),
  (69, o_goto 76),
  (72, o_aload 1 0),
  (73, o_get 10 16),
  (76, o_istore 2 5),
  (78, o_iload 1 3),
  (79, o_push 1 (.int 0)),
  (80, o_iload 2 5),
  (82, o_push 1 (.int 1)),
  (83, o_ii (fun x y => x - y)),
  (84, o_call 0 0 3 0 0 (fun _ _ => True) (S_Mo_within zz)),
  (87, o_if 92 (fun x => ¬ x = 0)),
  (90, o_push 1 (.int 0)),
  (91, o_zret),
  (92, o_push 2 (.int 8)),
  (94, o_iload 1 1),
  (95, o_ii (fun x y => x * y)),
  (96, o_aload 1 0),
  (97, o_get 10 20),
  (100, o_iload 1 1),
  (101, o_iald .int),
  (102, o_ii (fun x y => x + y)),
  (103, o_istore 2 6),
  (105, o_aload 1 0),
  (106, o_get 10 21),
  (109, o_iload 2 6),
  (111, o_iload 1 2),
  (112, o_iast .int (fun x => x)),
  (113, o_aload 1 0),
  (114, o_get 10 22),
  (117, o_iload 2 6),
  (119, o_iload 1 3),
  (120, o_iast .int (fun x => x)),
  (121, o_aload 1 0),
  (122, o_get 10 23),
  (125, o_iload 2 6),
  (127, o_iload 2 4),
  (129, o_iast .int (fun x => x)),
  (130, o_aload 1 0),
  (131, o_get 10 20),
  (134, o_iload 1 1),
  (135, o_aload 1 0),
  (136, o_get 10 20),
  (139, o_iload 1 1),
  (140, o_iald .int),
  (141, o_push 1 (.int 1)),
  (142, o_ii (fun x y => x + y)),
  (143, o_iast .int (fun x => x)),
  (144, o_push 1 (.int 1)),
  (145, o_zret)]
set_option maxRecDepth 100000 in
theorem tm_Mo_entry (zz : Nat × Nat) : mx_All (fun _ o => mx_Mono o) (t_Mo_entry zz) := by
  refine mx_all_cons (mo_st) ?_
  refine mx_all_cons (mo_st) ?_
  refine mx_all_cons (mo_br) ?_
  refine mx_all_cons (mo_st) ?_
  refine mx_all_cons (mo_st) ?_
  refine mx_all_cons (mo_st) ?_
  refine mx_all_cons (mo_call (sm_Mo_within zz)) ?_
  refine mx_all_cons (mo_br) ?_
  refine mx_all_cons (mo_st) ?_
  refine mx_all_cons (mo_st) ?_
  refine mx_all_cons (mo_st) ?_
  refine mx_all_cons (mo_sc) ?_
  refine mx_all_cons (mo_st) ?_
  refine mx_all_cons (mo_br) ?_
  refine mx_all_cons (mo_st) ?_
  refine mx_all_cons (mo_st) ?_
  refine mx_all_cons (mo_st) ?_
  refine mx_all_cons (mo_call (sm_Mo_within zz)) ?_
  refine mx_all_cons (mo_br) ?_
  refine mx_all_cons (mo_st) ?_
  refine mx_all_cons (mo_st) ?_
  refine mx_all_cons (mo_st) ?_
  refine mx_all_cons (mo_call (sm_Mo_within zz)) ?_
  refine mx_all_cons (mo_br) ?_
  refine mx_all_cons (mo_st) ?_
  refine mx_all_cons (mo_zret) ?_
  refine mx_all_cons (mo_st) ?_
  refine mx_all_cons (mo_br) ?_
  refine mx_all_cons (mo_st) ?_
  refine mx_all_cons (mo_st) ?_
  refine mx_all_cons (mo_st) ?_
  refine mx_all_cons (mo_st) ?_
  refine mx_all_cons (mo_st) ?_
  refine mx_all_cons (mo_br) ?_
  refine mx_all_cons (mo_st) ?_
  refine mx_all_cons (mo_st) ?_
  refine mx_all_cons (mo_st) ?_
  refine mx_all_cons (mo_st) ?_
  refine mx_all_cons (mo_st) ?_
  refine mx_all_cons (mo_st) ?_
  refine mx_all_cons (mo_st) ?_
  refine mx_all_cons (mo_st) ?_
  refine mx_all_cons (mo_st) ?_
  refine mx_all_cons (mo_st) ?_
  refine mx_all_cons (mo_st) ?_
  refine mx_all_cons (mo_call (sm_Mo_within zz)) ?_
  refine mx_all_cons (mo_br) ?_
  refine mx_all_cons (mo_st) ?_
  refine mx_all_cons (mo_zret) ?_
  refine mx_all_cons (mo_st) ?_
  refine mx_all_cons (mo_st) ?_
  refine mx_all_cons (mo_st) ?_
  refine mx_all_cons (mo_st) ?_
  refine mx_all_cons (mo_st) ?_
  refine mx_all_cons (mo_st) ?_
  refine mx_all_cons (mo_sc) ?_
  refine mx_all_cons (mo_st) ?_
  refine mx_all_cons (mo_st) ?_
  refine mx_all_cons (mo_st) ?_
  refine mx_all_cons (mo_st) ?_
  refine mx_all_cons (mo_st) ?_
  refine mx_all_cons (mo_st) ?_
  refine mx_all_cons (mo_sc) ?_
  refine mx_all_cons (mo_st) ?_
  refine mx_all_cons (mo_st) ?_
  refine mx_all_cons (mo_st) ?_
  refine mx_all_cons (mo_st) ?_
  refine mx_all_cons (mo_sc) ?_
  refine mx_all_cons (mo_st) ?_
  refine mx_all_cons (mo_st) ?_
  refine mx_all_cons (mo_st) ?_
  refine mx_all_cons (mo_st) ?_
  refine mx_all_cons (mo_sc) ?_
  refine mx_all_cons (mo_st) ?_
  refine mx_all_cons (mo_st) ?_
  refine mx_all_cons (mo_st) ?_
  refine mx_all_cons (mo_st) ?_
  refine mx_all_cons (mo_st) ?_
  refine mx_all_cons (mo_st) ?_
  refine mx_all_cons (mo_sc) ?_
  refine mx_all_cons (mo_st) ?_
  refine mx_all_cons (mo_st) ?_
  refine mx_all_cons (mo_sc) ?_
  refine mx_all_cons (mo_st) ?_
  refine mx_all_cons (mo_zret) ?_
  exact mx_all_nil
def S_Mo_entry (zz : Nat × Nat) : mx_Sp := mx_S 7 0 0 (t_Mo_entry zz)
theorem sm_Mo_entry (zz : Nat × Nat) : mx_SMono (S_Mo_entry zz) := mx_S_mono (tm_Mo_entry zz)
abbrev rm_Mo_entry : Room := { frames := 1, cells := 0, slots := 0, locals := 22 }
set_option maxHeartbeats 4000000 in
set_option maxRecDepth 100000 in
theorem m_Mo_entry (l : Launch) (zz : Nat × Nat) : mx_Met l y_Mo_entry (wsOf y_Mo_entry c_Mo_entry 7 (some .boolean)) rm_Mo_entry wcl (mx_Z zz) 0 0 (S_Mo_entry zz) := by
  refine mx_met (cc := c_Mo_entry) (ret := (some .boolean)) (by decide) rfl ?_
  intro p e s m args below meth c D A Post X hz hr hlk hnm
  have hm : ∀ w ∈ mw, w.before args s = true := fun w h => X.1.2.2.2.2 w (List.mem_cons_of_mem _ h)
  refine mx_all_cons (ok_aload (fun hl kk => lv_aload_n X.1.1 X.1.2.1 d_Mo_entry_0 rfl hl kk) (fun hl kk => lv_aload_nN X.1.1 X.1.2.1 d_Mo_entry_0 rfl hl kk)) ?_
  refine mx_all_cons (ok_get (C := "HeaderScheduleModel") (T := T_Mo) (N := 40) X (mw_up in_Mo) rfl 24 (by decide) (hm _ w701) (fun _ h9 => h9) d_Mo_entry_1) ?_
  refine mx_all_cons (ok_if (fun kt kf => lv_if_ne X.1.1 X.1.2.1 d_Mo_entry_4 (by decide) kt (fun z => kf (fun g => g z)))) ?_
  refine mx_all_cons (ok_iload (fun hl kk => lv_iload_n X.1.1 X.1.2.1 d_Mo_entry_7 rfl hl kk)) ?_
  refine mx_all_cons (ok_push (fun kk => lv_iconst X.1.1 X.1.2.1 d_Mo_entry_8 (by decide) kk)) ?_
  refine mx_all_cons (ok_push (fun kk => lv_iconst X.1.1 X.1.2.1 d_Mo_entry_9 (by decide) kk)) ?_
  refine mx_all_cons (ok_callS X (mx_Zok_Z zz) hz ⟨(Nat.le_of_ble_eq_true rfl), (Nat.le_of_ble_eq_true rfl)⟩ (m_Mo_within l zz) ⟨mx_cwB 3 hm w804 w802 w40 rfl rfl (by decide +kernel) ⟨(Nat.le_of_ble_eq_true rfl), (Nat.le_of_ble_eq_true rfl)⟩, (hm _ w803)⟩ d_Mo_entry_10) ?_
  refine mx_all_cons (ok_if (fun kt kf => lv_if_eq X.1.1 X.1.2.1 d_Mo_entry_13 (by decide) kt kf)) ?_
  refine mx_all_cons (ok_aload (fun hl kk => lv_aload_n X.1.1 X.1.2.1 d_Mo_entry_16 rfl hl kk) (fun hl kk => lv_aload_nN X.1.1 X.1.2.1 d_Mo_entry_16 rfl hl kk)) ?_
  refine mx_all_cons (ok_get (C := "HeaderScheduleModel") (T := T_Mo) (N := 40) X (mw_up in_Mo) rfl 20 (by decide) (hm _ w697) (fun _ h9 => h9) d_Mo_entry_17) ?_
  refine mx_all_cons (ok_iload (fun hl kk => lv_iload_n X.1.1 X.1.2.1 d_Mo_entry_20 rfl hl kk)) ?_
  refine mx_all_cons (ok_iald X d_Mo_entry_21) ?_
  refine mx_all_cons (ok_push (fun kk => lv_bipush X.1.1 X.1.2.1 d_Mo_entry_22 (by decide) kk)) ?_
  refine mx_all_cons (ok_icmp (fun kt kf => lv_icmp_eq X.1.1 X.1.2.1 d_Mo_entry_24 (by decide) kt kf)) ?_
  refine mx_all_cons (ok_iload (fun hl kk => lv_iload_n X.1.1 X.1.2.1 d_Mo_entry_27 rfl hl kk)) ?_
  refine mx_all_cons (ok_push (fun kk => lv_iconst X.1.1 X.1.2.1 d_Mo_entry_28 (by decide) kk)) ?_
  refine mx_all_cons (ok_push (fun kk => lv_iconst X.1.1 X.1.2.1 d_Mo_entry_29 (by decide) kk)) ?_
  refine mx_all_cons (ok_callS X (mx_Zok_Z zz) hz ⟨(Nat.le_of_ble_eq_true rfl), (Nat.le_of_ble_eq_true rfl)⟩ (m_Mo_within l zz) ⟨mx_cwB 3 hm w804 w802 w40 rfl rfl (by decide +kernel) ⟨(Nat.le_of_ble_eq_true rfl), (Nat.le_of_ble_eq_true rfl)⟩, (hm _ w803)⟩ d_Mo_entry_30) ?_
  refine mx_all_cons (ok_if (fun kt kf => lv_if_eq X.1.1 X.1.2.1 d_Mo_entry_33 (by decide) kt kf)) ?_
  refine mx_all_cons (ok_iload (fun hl kk => lv_iload X.1.1 X.1.2.1 d_Mo_entry_36 hl kk)) ?_
  refine mx_all_cons (ok_push (fun kk => lv_iconst X.1.1 X.1.2.1 d_Mo_entry_38 (by decide) kk)) ?_
  refine mx_all_cons (ok_push (fun kk => lv_bipush X.1.1 X.1.2.1 d_Mo_entry_39 (by decide) kk)) ?_
  refine mx_all_cons (ok_callS X (mx_Zok_Z zz) hz ⟨(Nat.le_of_ble_eq_true rfl), (Nat.le_of_ble_eq_true rfl)⟩ (m_Mo_within l zz) ⟨mx_cwB 3 hm w804 w802 w40 rfl rfl (by decide +kernel) ⟨(Nat.le_of_ble_eq_true rfl), (Nat.le_of_ble_eq_true rfl)⟩, (hm _ w803)⟩ d_Mo_entry_41) ?_
  refine mx_all_cons (ok_if (fun kt kf => lv_if_ne X.1.1 X.1.2.1 d_Mo_entry_44 (by decide) kt (fun z => kf (fun g => g z)))) ?_
  refine mx_all_cons (ok_push (fun kk => lv_iconst X.1.1 X.1.2.1 d_Mo_entry_47 (by decide) kk)) ?_
  refine mx_all_cons (ok_zret X hr hlk d_Mo_entry_48) ?_
  refine mx_all_cons (ok_iload (fun hl kk => lv_iload_n X.1.1 X.1.2.1 d_Mo_entry_49 rfl hl kk)) ?_
  refine mx_all_cons (ok_if (fun kt kf => lv_if_ne X.1.1 X.1.2.1 d_Mo_entry_50 (by decide) kt (fun z => kf (fun g => g z)))) ?_
  refine mx_all_cons (ok_aload (fun hl kk => lv_aload_n X.1.1 X.1.2.1 d_Mo_entry_53 rfl hl kk) (fun hl kk => lv_aload_nN X.1.1 X.1.2.1 d_Mo_entry_53 rfl hl kk)) ?_
  refine mx_all_cons (ok_get (C := "HeaderScheduleModel") (T := T_Mo) (N := 40) X (mw_up in_Mo) rfl 0 (by decide) (hm _ w677) (fun _ h9 => h9) d_Mo_entry_54) ?_
  refine mx_all_cons (ok_goto X d_Mo_entry_57 (by decide)) ?_
  refine mx_all_cons (ok_iload (fun hl kk => lv_iload_n X.1.1 X.1.2.1 d_Mo_entry_60 rfl hl kk)) ?_
  refine mx_all_cons (ok_push (fun kk => lv_iconst X.1.1 X.1.2.1 d_Mo_entry_61 (by decide) kk)) ?_
  refine mx_all_cons (ok_icmp (fun kt kf => lv_icmp_ne X.1.1 X.1.2.1 d_Mo_entry_62 (by decide) kt (fun z => kf (fun g => g z)))) ?_
  refine mx_all_cons (ok_aload (fun hl kk => lv_aload_n X.1.1 X.1.2.1 d_Mo_entry_65 rfl hl kk) (fun hl kk => lv_aload_nN X.1.1 X.1.2.1 d_Mo_entry_65 rfl hl kk)) ?_
  refine mx_all_cons (ok_get (C := "HeaderScheduleModel") (T := T_Mo) (N := 40) X (mw_up in_Mo) rfl 14 (by decide) (hm _ w691) (fun _ h9 => h9) d_Mo_entry_66) ?_
  refine mx_all_cons (ok_goto X d_Mo_entry_69 (by decide)) ?_
  refine mx_all_cons (ok_aload (fun hl kk => lv_aload_n X.1.1 X.1.2.1 d_Mo_entry_72 rfl hl kk) (fun hl kk => lv_aload_nN X.1.1 X.1.2.1 d_Mo_entry_72 rfl hl kk)) ?_
  refine mx_all_cons (ok_get (C := "HeaderScheduleModel") (T := T_Mo) (N := 40) X (mw_up in_Mo) rfl 16 (by decide) (hm _ w693) (fun _ h9 => h9) d_Mo_entry_73) ?_
  refine mx_all_cons (ok_istore (fun hl kk => lv_istore X.1.1 X.1.2.1 d_Mo_entry_76 hl (by decide) rfl kk)) ?_
  refine mx_all_cons (ok_iload (fun hl kk => lv_iload_n X.1.1 X.1.2.1 d_Mo_entry_78 rfl hl kk)) ?_
  refine mx_all_cons (ok_push (fun kk => lv_iconst X.1.1 X.1.2.1 d_Mo_entry_79 (by decide) kk)) ?_
  refine mx_all_cons (ok_iload (fun hl kk => lv_iload X.1.1 X.1.2.1 d_Mo_entry_80 hl kk)) ?_
  refine mx_all_cons (ok_push (fun kk => lv_iconst X.1.1 X.1.2.1 d_Mo_entry_82 (by decide) kk)) ?_
  refine mx_all_cons (ok_ii (fun kk => lv_isub X.1.1 X.1.2.1 d_Mo_entry_83 kk)) ?_
  refine mx_all_cons (ok_callS X (mx_Zok_Z zz) hz ⟨(Nat.le_of_ble_eq_true rfl), (Nat.le_of_ble_eq_true rfl)⟩ (m_Mo_within l zz) ⟨mx_cwB 3 hm w804 w802 w40 rfl rfl (by decide +kernel) ⟨(Nat.le_of_ble_eq_true rfl), (Nat.le_of_ble_eq_true rfl)⟩, (hm _ w803)⟩ d_Mo_entry_84) ?_
  refine mx_all_cons (ok_if (fun kt kf => lv_if_ne X.1.1 X.1.2.1 d_Mo_entry_87 (by decide) kt (fun z => kf (fun g => g z)))) ?_
  refine mx_all_cons (ok_push (fun kk => lv_iconst X.1.1 X.1.2.1 d_Mo_entry_90 (by decide) kk)) ?_
  refine mx_all_cons (ok_zret X hr hlk d_Mo_entry_91) ?_
  refine mx_all_cons (ok_push (fun kk => lv_bipush X.1.1 X.1.2.1 d_Mo_entry_92 (by decide) kk)) ?_
  refine mx_all_cons (ok_iload (fun hl kk => lv_iload_n X.1.1 X.1.2.1 d_Mo_entry_94 rfl hl kk)) ?_
  refine mx_all_cons (ok_ii (fun kk => lv_imul X.1.1 X.1.2.1 d_Mo_entry_95 kk)) ?_
  refine mx_all_cons (ok_aload (fun hl kk => lv_aload_n X.1.1 X.1.2.1 d_Mo_entry_96 rfl hl kk) (fun hl kk => lv_aload_nN X.1.1 X.1.2.1 d_Mo_entry_96 rfl hl kk)) ?_
  refine mx_all_cons (ok_get (C := "HeaderScheduleModel") (T := T_Mo) (N := 40) X (mw_up in_Mo) rfl 20 (by decide) (hm _ w697) (fun _ h9 => h9) d_Mo_entry_97) ?_
  refine mx_all_cons (ok_iload (fun hl kk => lv_iload_n X.1.1 X.1.2.1 d_Mo_entry_100 rfl hl kk)) ?_
  refine mx_all_cons (ok_iald X d_Mo_entry_101) ?_
  refine mx_all_cons (ok_ii (fun kk => lv_iadd X.1.1 X.1.2.1 d_Mo_entry_102 kk)) ?_
  refine mx_all_cons (ok_istore (fun hl kk => lv_istore X.1.1 X.1.2.1 d_Mo_entry_103 hl (by decide) rfl kk)) ?_
  refine mx_all_cons (ok_aload (fun hl kk => lv_aload_n X.1.1 X.1.2.1 d_Mo_entry_105 rfl hl kk) (fun hl kk => lv_aload_nN X.1.1 X.1.2.1 d_Mo_entry_105 rfl hl kk)) ?_
  refine mx_all_cons (ok_get (C := "HeaderScheduleModel") (T := T_Mo) (N := 40) X (mw_up in_Mo) rfl 21 (by decide) (hm _ w698) (fun _ h9 => h9) d_Mo_entry_106) ?_
  refine mx_all_cons (ok_iload (fun hl kk => lv_iload X.1.1 X.1.2.1 d_Mo_entry_109 hl kk)) ?_
  refine mx_all_cons (ok_iload (fun hl kk => lv_iload_n X.1.1 X.1.2.1 d_Mo_entry_111 rfl hl kk)) ?_
  refine mx_all_cons (ok_iast X d_Mo_entry_112) ?_
  refine mx_all_cons (ok_aload (fun hl kk => lv_aload_n X.1.1 X.1.2.1 d_Mo_entry_113 rfl hl kk) (fun hl kk => lv_aload_nN X.1.1 X.1.2.1 d_Mo_entry_113 rfl hl kk)) ?_
  refine mx_all_cons (ok_get (C := "HeaderScheduleModel") (T := T_Mo) (N := 40) X (mw_up in_Mo) rfl 22 (by decide) (hm _ w699) (fun _ h9 => h9) d_Mo_entry_114) ?_
  refine mx_all_cons (ok_iload (fun hl kk => lv_iload X.1.1 X.1.2.1 d_Mo_entry_117 hl kk)) ?_
  refine mx_all_cons (ok_iload (fun hl kk => lv_iload_n X.1.1 X.1.2.1 d_Mo_entry_119 rfl hl kk)) ?_
  refine mx_all_cons (ok_iast X d_Mo_entry_120) ?_
  refine mx_all_cons (ok_aload (fun hl kk => lv_aload_n X.1.1 X.1.2.1 d_Mo_entry_121 rfl hl kk) (fun hl kk => lv_aload_nN X.1.1 X.1.2.1 d_Mo_entry_121 rfl hl kk)) ?_
  refine mx_all_cons (ok_get (C := "HeaderScheduleModel") (T := T_Mo) (N := 40) X (mw_up in_Mo) rfl 23 (by decide) (hm _ w700) (fun _ h9 => h9) d_Mo_entry_122) ?_
  refine mx_all_cons (ok_iload (fun hl kk => lv_iload X.1.1 X.1.2.1 d_Mo_entry_125 hl kk)) ?_
  refine mx_all_cons (ok_iload (fun hl kk => lv_iload X.1.1 X.1.2.1 d_Mo_entry_127 hl kk)) ?_
  refine mx_all_cons (ok_iast X d_Mo_entry_129) ?_
  refine mx_all_cons (ok_aload (fun hl kk => lv_aload_n X.1.1 X.1.2.1 d_Mo_entry_130 rfl hl kk) (fun hl kk => lv_aload_nN X.1.1 X.1.2.1 d_Mo_entry_130 rfl hl kk)) ?_
  refine mx_all_cons (ok_get (C := "HeaderScheduleModel") (T := T_Mo) (N := 40) X (mw_up in_Mo) rfl 20 (by decide) (hm _ w697) (fun _ h9 => h9) d_Mo_entry_131) ?_
  refine mx_all_cons (ok_iload (fun hl kk => lv_iload_n X.1.1 X.1.2.1 d_Mo_entry_134 rfl hl kk)) ?_
  refine mx_all_cons (ok_aload (fun hl kk => lv_aload_n X.1.1 X.1.2.1 d_Mo_entry_135 rfl hl kk) (fun hl kk => lv_aload_nN X.1.1 X.1.2.1 d_Mo_entry_135 rfl hl kk)) ?_
  refine mx_all_cons (ok_get (C := "HeaderScheduleModel") (T := T_Mo) (N := 40) X (mw_up in_Mo) rfl 20 (by decide) (hm _ w697) (fun _ h9 => h9) d_Mo_entry_136) ?_
  refine mx_all_cons (ok_iload (fun hl kk => lv_iload_n X.1.1 X.1.2.1 d_Mo_entry_139 rfl hl kk)) ?_
  refine mx_all_cons (ok_iald X d_Mo_entry_140) ?_
  refine mx_all_cons (ok_push (fun kk => lv_iconst X.1.1 X.1.2.1 d_Mo_entry_141 (by decide) kk)) ?_
  refine mx_all_cons (ok_ii (fun kk => lv_iadd X.1.1 X.1.2.1 d_Mo_entry_142 kk)) ?_
  refine mx_all_cons (ok_iast X d_Mo_entry_143) ?_
  refine mx_all_cons (ok_push (fun kk => lv_iconst X.1.1 X.1.2.1 d_Mo_entry_144 (by decide) kk)) ?_
  refine mx_all_cons (ok_zret X hr hlk d_Mo_entry_145) ?_
  exact mx_all_nil
theorem st_Mo_entry_0 (zz : Nat × Nat) (r : mx_T) (ls : mx_L) (st : List Value) (h : mx_H) (c n : Nat) : mx_G r (t_Mo_entry zz) 0 ls st h c n = (o_aload 1 0) r (mx_G r (t_Mo_entry zz)) 0 ls st h c n := mx_G_eq (tm_Mo_entry zz) r 0 ls st h c n
theorem st_Mo_entry_1 (zz : Nat × Nat) (r : mx_T) (ls : mx_L) (st : List Value) (h : mx_H) (c n : Nat) : mx_G r (t_Mo_entry zz) 1 ls st h c n = (o_get 10 24) r (mx_G r (t_Mo_entry zz)) 1 ls st h c n := mx_G_eq (tm_Mo_entry zz) r 1 ls st h c n
theorem st_Mo_entry_4 (zz : Nat × Nat) (r : mx_T) (ls : mx_L) (st : List Value) (h : mx_H) (c n : Nat) : mx_G r (t_Mo_entry zz) 4 ls st h c n = (o_if 47 (fun x => ¬ x = 0)) r (mx_G r (t_Mo_entry zz)) 4 ls st h c n := mx_G_eq (tm_Mo_entry zz) r 4 ls st h c n
theorem st_Mo_entry_7 (zz : Nat × Nat) (r : mx_T) (ls : mx_L) (st : List Value) (h : mx_H) (c n : Nat) : mx_G r (t_Mo_entry zz) 7 ls st h c n = (o_iload 1 1) r (mx_G r (t_Mo_entry zz)) 7 ls st h c n := mx_G_eq (tm_Mo_entry zz) r 7 ls st h c n
theorem st_Mo_entry_8 (zz : Nat × Nat) (r : mx_T) (ls : mx_L) (st : List Value) (h : mx_H) (c n : Nat) : mx_G r (t_Mo_entry zz) 8 ls st h c n = (o_push 1 (.int 0)) r (mx_G r (t_Mo_entry zz)) 8 ls st h c n := mx_G_eq (tm_Mo_entry zz) r 8 ls st h c n
theorem st_Mo_entry_9 (zz : Nat × Nat) (r : mx_T) (ls : mx_L) (st : List Value) (h : mx_H) (c n : Nat) : mx_G r (t_Mo_entry zz) 9 ls st h c n = (o_push 1 (.int 2)) r (mx_G r (t_Mo_entry zz)) 9 ls st h c n := mx_G_eq (tm_Mo_entry zz) r 9 ls st h c n
theorem st_Mo_entry_10 (zz : Nat × Nat) (r : mx_T) (ls : mx_L) (st : List Value) (h : mx_H) (c n : Nat) : mx_G r (t_Mo_entry zz) 10 ls st h c n = (o_call 0 0 3 0 0 (fun _ _ => True) (S_Mo_within zz)) r (mx_G r (t_Mo_entry zz)) 10 ls st h c n := mx_G_eq (tm_Mo_entry zz) r 10 ls st h c n
theorem st_Mo_entry_13 (zz : Nat × Nat) (r : mx_T) (ls : mx_L) (st : List Value) (h : mx_H) (c n : Nat) : mx_G r (t_Mo_entry zz) 13 ls st h c n = (o_if 47 (fun x => x = 0)) r (mx_G r (t_Mo_entry zz)) 13 ls st h c n := mx_G_eq (tm_Mo_entry zz) r 13 ls st h c n
theorem st_Mo_entry_16 (zz : Nat × Nat) (r : mx_T) (ls : mx_L) (st : List Value) (h : mx_H) (c n : Nat) : mx_G r (t_Mo_entry zz) 16 ls st h c n = (o_aload 1 0) r (mx_G r (t_Mo_entry zz)) 16 ls st h c n := mx_G_eq (tm_Mo_entry zz) r 16 ls st h c n
theorem st_Mo_entry_17 (zz : Nat × Nat) (r : mx_T) (ls : mx_L) (st : List Value) (h : mx_H) (c n : Nat) : mx_G r (t_Mo_entry zz) 17 ls st h c n = (o_get 10 20) r (mx_G r (t_Mo_entry zz)) 17 ls st h c n := mx_G_eq (tm_Mo_entry zz) r 17 ls st h c n
theorem st_Mo_entry_20 (zz : Nat × Nat) (r : mx_T) (ls : mx_L) (st : List Value) (h : mx_H) (c n : Nat) : mx_G r (t_Mo_entry zz) 20 ls st h c n = (o_iload 1 1) r (mx_G r (t_Mo_entry zz)) 20 ls st h c n := mx_G_eq (tm_Mo_entry zz) r 20 ls st h c n
theorem st_Mo_entry_21 (zz : Nat × Nat) (r : mx_T) (ls : mx_L) (st : List Value) (h : mx_H) (c n : Nat) : mx_G r (t_Mo_entry zz) 21 ls st h c n = (o_iald .int) r (mx_G r (t_Mo_entry zz)) 21 ls st h c n := mx_G_eq (tm_Mo_entry zz) r 21 ls st h c n
theorem st_Mo_entry_22 (zz : Nat × Nat) (r : mx_T) (ls : mx_L) (st : List Value) (h : mx_H) (c n : Nat) : mx_G r (t_Mo_entry zz) 22 ls st h c n = (o_push 2 (.int 8)) r (mx_G r (t_Mo_entry zz)) 22 ls st h c n := mx_G_eq (tm_Mo_entry zz) r 22 ls st h c n
theorem st_Mo_entry_24 (zz : Nat × Nat) (r : mx_T) (ls : mx_L) (st : List Value) (h : mx_H) (c n : Nat) : mx_G r (t_Mo_entry zz) 24 ls st h c n = (o_icmp 47 (fun x y => x = y)) r (mx_G r (t_Mo_entry zz)) 24 ls st h c n := mx_G_eq (tm_Mo_entry zz) r 24 ls st h c n
theorem st_Mo_entry_27 (zz : Nat × Nat) (r : mx_T) (ls : mx_L) (st : List Value) (h : mx_H) (c n : Nat) : mx_G r (t_Mo_entry zz) 27 ls st h c n = (o_iload 1 2) r (mx_G r (t_Mo_entry zz)) 27 ls st h c n := mx_G_eq (tm_Mo_entry zz) r 27 ls st h c n
theorem st_Mo_entry_28 (zz : Nat × Nat) (r : mx_T) (ls : mx_L) (st : List Value) (h : mx_H) (c n : Nat) : mx_G r (t_Mo_entry zz) 28 ls st h c n = (o_push 1 (.int 0)) r (mx_G r (t_Mo_entry zz)) 28 ls st h c n := mx_G_eq (tm_Mo_entry zz) r 28 ls st h c n
theorem st_Mo_entry_29 (zz : Nat × Nat) (r : mx_T) (ls : mx_L) (st : List Value) (h : mx_H) (c n : Nat) : mx_G r (t_Mo_entry zz) 29 ls st h c n = (o_push 1 (.int 2)) r (mx_G r (t_Mo_entry zz)) 29 ls st h c n := mx_G_eq (tm_Mo_entry zz) r 29 ls st h c n
theorem st_Mo_entry_30 (zz : Nat × Nat) (r : mx_T) (ls : mx_L) (st : List Value) (h : mx_H) (c n : Nat) : mx_G r (t_Mo_entry zz) 30 ls st h c n = (o_call 0 0 3 0 0 (fun _ _ => True) (S_Mo_within zz)) r (mx_G r (t_Mo_entry zz)) 30 ls st h c n := mx_G_eq (tm_Mo_entry zz) r 30 ls st h c n
theorem st_Mo_entry_33 (zz : Nat × Nat) (r : mx_T) (ls : mx_L) (st : List Value) (h : mx_H) (c n : Nat) : mx_G r (t_Mo_entry zz) 33 ls st h c n = (o_if 47 (fun x => x = 0)) r (mx_G r (t_Mo_entry zz)) 33 ls st h c n := mx_G_eq (tm_Mo_entry zz) r 33 ls st h c n
theorem st_Mo_entry_36 (zz : Nat × Nat) (r : mx_T) (ls : mx_L) (st : List Value) (h : mx_H) (c n : Nat) : mx_G r (t_Mo_entry zz) 36 ls st h c n = (o_iload 2 4) r (mx_G r (t_Mo_entry zz)) 36 ls st h c n := mx_G_eq (tm_Mo_entry zz) r 36 ls st h c n
theorem st_Mo_entry_38 (zz : Nat × Nat) (r : mx_T) (ls : mx_L) (st : List Value) (h : mx_H) (c n : Nat) : mx_G r (t_Mo_entry zz) 38 ls st h c n = (o_push 1 (.int 1)) r (mx_G r (t_Mo_entry zz)) 38 ls st h c n := mx_G_eq (tm_Mo_entry zz) r 38 ls st h c n
theorem st_Mo_entry_39 (zz : Nat × Nat) (r : mx_T) (ls : mx_L) (st : List Value) (h : mx_H) (c n : Nat) : mx_G r (t_Mo_entry zz) 39 ls st h c n = (o_push 2 (.int 20)) r (mx_G r (t_Mo_entry zz)) 39 ls st h c n := mx_G_eq (tm_Mo_entry zz) r 39 ls st h c n
theorem st_Mo_entry_41 (zz : Nat × Nat) (r : mx_T) (ls : mx_L) (st : List Value) (h : mx_H) (c n : Nat) : mx_G r (t_Mo_entry zz) 41 ls st h c n = (o_call 0 0 3 0 0 (fun _ _ => True) (S_Mo_within zz)) r (mx_G r (t_Mo_entry zz)) 41 ls st h c n := mx_G_eq (tm_Mo_entry zz) r 41 ls st h c n
theorem st_Mo_entry_44 (zz : Nat × Nat) (r : mx_T) (ls : mx_L) (st : List Value) (h : mx_H) (c n : Nat) : mx_G r (t_Mo_entry zz) 44 ls st h c n = (o_if 49 (fun x => ¬ x = 0)) r (mx_G r (t_Mo_entry zz)) 44 ls st h c n := mx_G_eq (tm_Mo_entry zz) r 44 ls st h c n
theorem st_Mo_entry_47 (zz : Nat × Nat) (r : mx_T) (ls : mx_L) (st : List Value) (h : mx_H) (c n : Nat) : mx_G r (t_Mo_entry zz) 47 ls st h c n = (o_push 1 (.int 0)) r (mx_G r (t_Mo_entry zz)) 47 ls st h c n := mx_G_eq (tm_Mo_entry zz) r 47 ls st h c n
theorem st_Mo_entry_48 (zz : Nat × Nat) (r : mx_T) (ls : mx_L) (st : List Value) (h : mx_H) (c n : Nat) : mx_G r (t_Mo_entry zz) 48 ls st h c n = (o_zret) r (mx_G r (t_Mo_entry zz)) 48 ls st h c n := mx_G_eq (tm_Mo_entry zz) r 48 ls st h c n
theorem st_Mo_entry_49 (zz : Nat × Nat) (r : mx_T) (ls : mx_L) (st : List Value) (h : mx_H) (c n : Nat) : mx_G r (t_Mo_entry zz) 49 ls st h c n = (o_iload 1 2) r (mx_G r (t_Mo_entry zz)) 49 ls st h c n := mx_G_eq (tm_Mo_entry zz) r 49 ls st h c n
theorem st_Mo_entry_50 (zz : Nat × Nat) (r : mx_T) (ls : mx_L) (st : List Value) (h : mx_H) (c n : Nat) : mx_G r (t_Mo_entry zz) 50 ls st h c n = (o_if 60 (fun x => ¬ x = 0)) r (mx_G r (t_Mo_entry zz)) 50 ls st h c n := mx_G_eq (tm_Mo_entry zz) r 50 ls st h c n
theorem st_Mo_entry_53 (zz : Nat × Nat) (r : mx_T) (ls : mx_L) (st : List Value) (h : mx_H) (c n : Nat) : mx_G r (t_Mo_entry zz) 53 ls st h c n = (o_aload 1 0) r (mx_G r (t_Mo_entry zz)) 53 ls st h c n := mx_G_eq (tm_Mo_entry zz) r 53 ls st h c n
theorem st_Mo_entry_54 (zz : Nat × Nat) (r : mx_T) (ls : mx_L) (st : List Value) (h : mx_H) (c n : Nat) : mx_G r (t_Mo_entry zz) 54 ls st h c n = (o_get 10 0) r (mx_G r (t_Mo_entry zz)) 54 ls st h c n := mx_G_eq (tm_Mo_entry zz) r 54 ls st h c n
theorem st_Mo_entry_57 (zz : Nat × Nat) (r : mx_T) (ls : mx_L) (st : List Value) (h : mx_H) (c n : Nat) : mx_G r (t_Mo_entry zz) 57 ls st h c n = (o_goto 76) r (mx_G r (t_Mo_entry zz)) 57 ls st h c n := mx_G_eq (tm_Mo_entry zz) r 57 ls st h c n
theorem st_Mo_entry_60 (zz : Nat × Nat) (r : mx_T) (ls : mx_L) (st : List Value) (h : mx_H) (c n : Nat) : mx_G r (t_Mo_entry zz) 60 ls st h c n = (o_iload 1 2) r (mx_G r (t_Mo_entry zz)) 60 ls st h c n := mx_G_eq (tm_Mo_entry zz) r 60 ls st h c n
theorem st_Mo_entry_61 (zz : Nat × Nat) (r : mx_T) (ls : mx_L) (st : List Value) (h : mx_H) (c n : Nat) : mx_G r (t_Mo_entry zz) 61 ls st h c n = (o_push 1 (.int 1)) r (mx_G r (t_Mo_entry zz)) 61 ls st h c n := mx_G_eq (tm_Mo_entry zz) r 61 ls st h c n
theorem st_Mo_entry_62 (zz : Nat × Nat) (r : mx_T) (ls : mx_L) (st : List Value) (h : mx_H) (c n : Nat) : mx_G r (t_Mo_entry zz) 62 ls st h c n = (o_icmp 72 (fun x y => ¬ x = y)) r (mx_G r (t_Mo_entry zz)) 62 ls st h c n := mx_G_eq (tm_Mo_entry zz) r 62 ls st h c n
theorem st_Mo_entry_65 (zz : Nat × Nat) (r : mx_T) (ls : mx_L) (st : List Value) (h : mx_H) (c n : Nat) : mx_G r (t_Mo_entry zz) 65 ls st h c n = (o_aload 1 0) r (mx_G r (t_Mo_entry zz)) 65 ls st h c n := mx_G_eq (tm_Mo_entry zz) r 65 ls st h c n
theorem st_Mo_entry_66 (zz : Nat × Nat) (r : mx_T) (ls : mx_L) (st : List Value) (h : mx_H) (c n : Nat) : mx_G r (t_Mo_entry zz) 66 ls st h c n = (o_get 10 14) r (mx_G r (t_Mo_entry zz)) 66 ls st h c n := mx_G_eq (tm_Mo_entry zz) r 66 ls st h c n
theorem st_Mo_entry_69 (zz : Nat × Nat) (r : mx_T) (ls : mx_L) (st : List Value) (h : mx_H) (c n : Nat) : mx_G r (t_Mo_entry zz) 69 ls st h c n = (o_goto 76) r (mx_G r (t_Mo_entry zz)) 69 ls st h c n := mx_G_eq (tm_Mo_entry zz) r 69 ls st h c n
theorem st_Mo_entry_72 (zz : Nat × Nat) (r : mx_T) (ls : mx_L) (st : List Value) (h : mx_H) (c n : Nat) : mx_G r (t_Mo_entry zz) 72 ls st h c n = (o_aload 1 0) r (mx_G r (t_Mo_entry zz)) 72 ls st h c n := mx_G_eq (tm_Mo_entry zz) r 72 ls st h c n
theorem st_Mo_entry_73 (zz : Nat × Nat) (r : mx_T) (ls : mx_L) (st : List Value) (h : mx_H) (c n : Nat) : mx_G r (t_Mo_entry zz) 73 ls st h c n = (o_get 10 16) r (mx_G r (t_Mo_entry zz)) 73 ls st h c n := mx_G_eq (tm_Mo_entry zz) r 73 ls st h c n
theorem st_Mo_entry_76 (zz : Nat × Nat) (r : mx_T) (ls : mx_L) (st : List Value) (h : mx_H) (c n : Nat) : mx_G r (t_Mo_entry zz) 76 ls st h c n = (o_istore 2 5) r (mx_G r (t_Mo_entry zz)) 76 ls st h c n := mx_G_eq (tm_Mo_entry zz) r 76 ls st h c n
theorem st_Mo_entry_78 (zz : Nat × Nat) (r : mx_T) (ls : mx_L) (st : List Value) (h : mx_H) (c n : Nat) : mx_G r (t_Mo_entry zz) 78 ls st h c n = (o_iload 1 3) r (mx_G r (t_Mo_entry zz)) 78 ls st h c n := mx_G_eq (tm_Mo_entry zz) r 78 ls st h c n
theorem st_Mo_entry_79 (zz : Nat × Nat) (r : mx_T) (ls : mx_L) (st : List Value) (h : mx_H) (c n : Nat) : mx_G r (t_Mo_entry zz) 79 ls st h c n = (o_push 1 (.int 0)) r (mx_G r (t_Mo_entry zz)) 79 ls st h c n := mx_G_eq (tm_Mo_entry zz) r 79 ls st h c n
theorem st_Mo_entry_80 (zz : Nat × Nat) (r : mx_T) (ls : mx_L) (st : List Value) (h : mx_H) (c n : Nat) : mx_G r (t_Mo_entry zz) 80 ls st h c n = (o_iload 2 5) r (mx_G r (t_Mo_entry zz)) 80 ls st h c n := mx_G_eq (tm_Mo_entry zz) r 80 ls st h c n
theorem st_Mo_entry_82 (zz : Nat × Nat) (r : mx_T) (ls : mx_L) (st : List Value) (h : mx_H) (c n : Nat) : mx_G r (t_Mo_entry zz) 82 ls st h c n = (o_push 1 (.int 1)) r (mx_G r (t_Mo_entry zz)) 82 ls st h c n := mx_G_eq (tm_Mo_entry zz) r 82 ls st h c n
theorem st_Mo_entry_83 (zz : Nat × Nat) (r : mx_T) (ls : mx_L) (st : List Value) (h : mx_H) (c n : Nat) : mx_G r (t_Mo_entry zz) 83 ls st h c n = (o_ii (fun x y => x - y)) r (mx_G r (t_Mo_entry zz)) 83 ls st h c n := mx_G_eq (tm_Mo_entry zz) r 83 ls st h c n
theorem st_Mo_entry_84 (zz : Nat × Nat) (r : mx_T) (ls : mx_L) (st : List Value) (h : mx_H) (c n : Nat) : mx_G r (t_Mo_entry zz) 84 ls st h c n = (o_call 0 0 3 0 0 (fun _ _ => True) (S_Mo_within zz)) r (mx_G r (t_Mo_entry zz)) 84 ls st h c n := mx_G_eq (tm_Mo_entry zz) r 84 ls st h c n
theorem st_Mo_entry_87 (zz : Nat × Nat) (r : mx_T) (ls : mx_L) (st : List Value) (h : mx_H) (c n : Nat) : mx_G r (t_Mo_entry zz) 87 ls st h c n = (o_if 92 (fun x => ¬ x = 0)) r (mx_G r (t_Mo_entry zz)) 87 ls st h c n := mx_G_eq (tm_Mo_entry zz) r 87 ls st h c n
theorem st_Mo_entry_90 (zz : Nat × Nat) (r : mx_T) (ls : mx_L) (st : List Value) (h : mx_H) (c n : Nat) : mx_G r (t_Mo_entry zz) 90 ls st h c n = (o_push 1 (.int 0)) r (mx_G r (t_Mo_entry zz)) 90 ls st h c n := mx_G_eq (tm_Mo_entry zz) r 90 ls st h c n
theorem st_Mo_entry_91 (zz : Nat × Nat) (r : mx_T) (ls : mx_L) (st : List Value) (h : mx_H) (c n : Nat) : mx_G r (t_Mo_entry zz) 91 ls st h c n = (o_zret) r (mx_G r (t_Mo_entry zz)) 91 ls st h c n := mx_G_eq (tm_Mo_entry zz) r 91 ls st h c n
theorem st_Mo_entry_92 (zz : Nat × Nat) (r : mx_T) (ls : mx_L) (st : List Value) (h : mx_H) (c n : Nat) : mx_G r (t_Mo_entry zz) 92 ls st h c n = (o_push 2 (.int 8)) r (mx_G r (t_Mo_entry zz)) 92 ls st h c n := mx_G_eq (tm_Mo_entry zz) r 92 ls st h c n
theorem st_Mo_entry_94 (zz : Nat × Nat) (r : mx_T) (ls : mx_L) (st : List Value) (h : mx_H) (c n : Nat) : mx_G r (t_Mo_entry zz) 94 ls st h c n = (o_iload 1 1) r (mx_G r (t_Mo_entry zz)) 94 ls st h c n := mx_G_eq (tm_Mo_entry zz) r 94 ls st h c n
theorem st_Mo_entry_95 (zz : Nat × Nat) (r : mx_T) (ls : mx_L) (st : List Value) (h : mx_H) (c n : Nat) : mx_G r (t_Mo_entry zz) 95 ls st h c n = (o_ii (fun x y => x * y)) r (mx_G r (t_Mo_entry zz)) 95 ls st h c n := mx_G_eq (tm_Mo_entry zz) r 95 ls st h c n
theorem st_Mo_entry_96 (zz : Nat × Nat) (r : mx_T) (ls : mx_L) (st : List Value) (h : mx_H) (c n : Nat) : mx_G r (t_Mo_entry zz) 96 ls st h c n = (o_aload 1 0) r (mx_G r (t_Mo_entry zz)) 96 ls st h c n := mx_G_eq (tm_Mo_entry zz) r 96 ls st h c n
theorem st_Mo_entry_97 (zz : Nat × Nat) (r : mx_T) (ls : mx_L) (st : List Value) (h : mx_H) (c n : Nat) : mx_G r (t_Mo_entry zz) 97 ls st h c n = (o_get 10 20) r (mx_G r (t_Mo_entry zz)) 97 ls st h c n := mx_G_eq (tm_Mo_entry zz) r 97 ls st h c n
theorem st_Mo_entry_100 (zz : Nat × Nat) (r : mx_T) (ls : mx_L) (st : List Value) (h : mx_H) (c n : Nat) : mx_G r (t_Mo_entry zz) 100 ls st h c n = (o_iload 1 1) r (mx_G r (t_Mo_entry zz)) 100 ls st h c n := mx_G_eq (tm_Mo_entry zz) r 100 ls st h c n
theorem st_Mo_entry_101 (zz : Nat × Nat) (r : mx_T) (ls : mx_L) (st : List Value) (h : mx_H) (c n : Nat) : mx_G r (t_Mo_entry zz) 101 ls st h c n = (o_iald .int) r (mx_G r (t_Mo_entry zz)) 101 ls st h c n := mx_G_eq (tm_Mo_entry zz) r 101 ls st h c n
theorem st_Mo_entry_102 (zz : Nat × Nat) (r : mx_T) (ls : mx_L) (st : List Value) (h : mx_H) (c n : Nat) : mx_G r (t_Mo_entry zz) 102 ls st h c n = (o_ii (fun x y => x + y)) r (mx_G r (t_Mo_entry zz)) 102 ls st h c n := mx_G_eq (tm_Mo_entry zz) r 102 ls st h c n
theorem st_Mo_entry_103 (zz : Nat × Nat) (r : mx_T) (ls : mx_L) (st : List Value) (h : mx_H) (c n : Nat) : mx_G r (t_Mo_entry zz) 103 ls st h c n = (o_istore 2 6) r (mx_G r (t_Mo_entry zz)) 103 ls st h c n := mx_G_eq (tm_Mo_entry zz) r 103 ls st h c n
theorem st_Mo_entry_105 (zz : Nat × Nat) (r : mx_T) (ls : mx_L) (st : List Value) (h : mx_H) (c n : Nat) : mx_G r (t_Mo_entry zz) 105 ls st h c n = (o_aload 1 0) r (mx_G r (t_Mo_entry zz)) 105 ls st h c n := mx_G_eq (tm_Mo_entry zz) r 105 ls st h c n
theorem st_Mo_entry_106 (zz : Nat × Nat) (r : mx_T) (ls : mx_L) (st : List Value) (h : mx_H) (c n : Nat) : mx_G r (t_Mo_entry zz) 106 ls st h c n = (o_get 10 21) r (mx_G r (t_Mo_entry zz)) 106 ls st h c n := mx_G_eq (tm_Mo_entry zz) r 106 ls st h c n
theorem st_Mo_entry_109 (zz : Nat × Nat) (r : mx_T) (ls : mx_L) (st : List Value) (h : mx_H) (c n : Nat) : mx_G r (t_Mo_entry zz) 109 ls st h c n = (o_iload 2 6) r (mx_G r (t_Mo_entry zz)) 109 ls st h c n := mx_G_eq (tm_Mo_entry zz) r 109 ls st h c n
theorem st_Mo_entry_111 (zz : Nat × Nat) (r : mx_T) (ls : mx_L) (st : List Value) (h : mx_H) (c n : Nat) : mx_G r (t_Mo_entry zz) 111 ls st h c n = (o_iload 1 2) r (mx_G r (t_Mo_entry zz)) 111 ls st h c n := mx_G_eq (tm_Mo_entry zz) r 111 ls st h c n
theorem st_Mo_entry_112 (zz : Nat × Nat) (r : mx_T) (ls : mx_L) (st : List Value) (h : mx_H) (c n : Nat) : mx_G r (t_Mo_entry zz) 112 ls st h c n = (o_iast .int (fun x => x)) r (mx_G r (t_Mo_entry zz)) 112 ls st h c n := mx_G_eq (tm_Mo_entry zz) r 112 ls st h c n
theorem st_Mo_entry_113 (zz : Nat × Nat) (r : mx_T) (ls : mx_L) (st : List Value) (h : mx_H) (c n : Nat) : mx_G r (t_Mo_entry zz) 113 ls st h c n = (o_aload 1 0) r (mx_G r (t_Mo_entry zz)) 113 ls st h c n := mx_G_eq (tm_Mo_entry zz) r 113 ls st h c n
theorem st_Mo_entry_114 (zz : Nat × Nat) (r : mx_T) (ls : mx_L) (st : List Value) (h : mx_H) (c n : Nat) : mx_G r (t_Mo_entry zz) 114 ls st h c n = (o_get 10 22) r (mx_G r (t_Mo_entry zz)) 114 ls st h c n := mx_G_eq (tm_Mo_entry zz) r 114 ls st h c n
theorem st_Mo_entry_117 (zz : Nat × Nat) (r : mx_T) (ls : mx_L) (st : List Value) (h : mx_H) (c n : Nat) : mx_G r (t_Mo_entry zz) 117 ls st h c n = (o_iload 2 6) r (mx_G r (t_Mo_entry zz)) 117 ls st h c n := mx_G_eq (tm_Mo_entry zz) r 117 ls st h c n
theorem st_Mo_entry_119 (zz : Nat × Nat) (r : mx_T) (ls : mx_L) (st : List Value) (h : mx_H) (c n : Nat) : mx_G r (t_Mo_entry zz) 119 ls st h c n = (o_iload 1 3) r (mx_G r (t_Mo_entry zz)) 119 ls st h c n := mx_G_eq (tm_Mo_entry zz) r 119 ls st h c n
theorem st_Mo_entry_120 (zz : Nat × Nat) (r : mx_T) (ls : mx_L) (st : List Value) (h : mx_H) (c n : Nat) : mx_G r (t_Mo_entry zz) 120 ls st h c n = (o_iast .int (fun x => x)) r (mx_G r (t_Mo_entry zz)) 120 ls st h c n := mx_G_eq (tm_Mo_entry zz) r 120 ls st h c n
theorem st_Mo_entry_121 (zz : Nat × Nat) (r : mx_T) (ls : mx_L) (st : List Value) (h : mx_H) (c n : Nat) : mx_G r (t_Mo_entry zz) 121 ls st h c n = (o_aload 1 0) r (mx_G r (t_Mo_entry zz)) 121 ls st h c n := mx_G_eq (tm_Mo_entry zz) r 121 ls st h c n
theorem st_Mo_entry_122 (zz : Nat × Nat) (r : mx_T) (ls : mx_L) (st : List Value) (h : mx_H) (c n : Nat) : mx_G r (t_Mo_entry zz) 122 ls st h c n = (o_get 10 23) r (mx_G r (t_Mo_entry zz)) 122 ls st h c n := mx_G_eq (tm_Mo_entry zz) r 122 ls st h c n
theorem st_Mo_entry_125 (zz : Nat × Nat) (r : mx_T) (ls : mx_L) (st : List Value) (h : mx_H) (c n : Nat) : mx_G r (t_Mo_entry zz) 125 ls st h c n = (o_iload 2 6) r (mx_G r (t_Mo_entry zz)) 125 ls st h c n := mx_G_eq (tm_Mo_entry zz) r 125 ls st h c n
theorem st_Mo_entry_127 (zz : Nat × Nat) (r : mx_T) (ls : mx_L) (st : List Value) (h : mx_H) (c n : Nat) : mx_G r (t_Mo_entry zz) 127 ls st h c n = (o_iload 2 4) r (mx_G r (t_Mo_entry zz)) 127 ls st h c n := mx_G_eq (tm_Mo_entry zz) r 127 ls st h c n
theorem st_Mo_entry_129 (zz : Nat × Nat) (r : mx_T) (ls : mx_L) (st : List Value) (h : mx_H) (c n : Nat) : mx_G r (t_Mo_entry zz) 129 ls st h c n = (o_iast .int (fun x => x)) r (mx_G r (t_Mo_entry zz)) 129 ls st h c n := mx_G_eq (tm_Mo_entry zz) r 129 ls st h c n
theorem st_Mo_entry_130 (zz : Nat × Nat) (r : mx_T) (ls : mx_L) (st : List Value) (h : mx_H) (c n : Nat) : mx_G r (t_Mo_entry zz) 130 ls st h c n = (o_aload 1 0) r (mx_G r (t_Mo_entry zz)) 130 ls st h c n := mx_G_eq (tm_Mo_entry zz) r 130 ls st h c n
theorem st_Mo_entry_131 (zz : Nat × Nat) (r : mx_T) (ls : mx_L) (st : List Value) (h : mx_H) (c n : Nat) : mx_G r (t_Mo_entry zz) 131 ls st h c n = (o_get 10 20) r (mx_G r (t_Mo_entry zz)) 131 ls st h c n := mx_G_eq (tm_Mo_entry zz) r 131 ls st h c n
theorem st_Mo_entry_134 (zz : Nat × Nat) (r : mx_T) (ls : mx_L) (st : List Value) (h : mx_H) (c n : Nat) : mx_G r (t_Mo_entry zz) 134 ls st h c n = (o_iload 1 1) r (mx_G r (t_Mo_entry zz)) 134 ls st h c n := mx_G_eq (tm_Mo_entry zz) r 134 ls st h c n
theorem st_Mo_entry_135 (zz : Nat × Nat) (r : mx_T) (ls : mx_L) (st : List Value) (h : mx_H) (c n : Nat) : mx_G r (t_Mo_entry zz) 135 ls st h c n = (o_aload 1 0) r (mx_G r (t_Mo_entry zz)) 135 ls st h c n := mx_G_eq (tm_Mo_entry zz) r 135 ls st h c n
theorem st_Mo_entry_136 (zz : Nat × Nat) (r : mx_T) (ls : mx_L) (st : List Value) (h : mx_H) (c n : Nat) : mx_G r (t_Mo_entry zz) 136 ls st h c n = (o_get 10 20) r (mx_G r (t_Mo_entry zz)) 136 ls st h c n := mx_G_eq (tm_Mo_entry zz) r 136 ls st h c n
theorem st_Mo_entry_139 (zz : Nat × Nat) (r : mx_T) (ls : mx_L) (st : List Value) (h : mx_H) (c n : Nat) : mx_G r (t_Mo_entry zz) 139 ls st h c n = (o_iload 1 1) r (mx_G r (t_Mo_entry zz)) 139 ls st h c n := mx_G_eq (tm_Mo_entry zz) r 139 ls st h c n
theorem st_Mo_entry_140 (zz : Nat × Nat) (r : mx_T) (ls : mx_L) (st : List Value) (h : mx_H) (c n : Nat) : mx_G r (t_Mo_entry zz) 140 ls st h c n = (o_iald .int) r (mx_G r (t_Mo_entry zz)) 140 ls st h c n := mx_G_eq (tm_Mo_entry zz) r 140 ls st h c n
theorem st_Mo_entry_141 (zz : Nat × Nat) (r : mx_T) (ls : mx_L) (st : List Value) (h : mx_H) (c n : Nat) : mx_G r (t_Mo_entry zz) 141 ls st h c n = (o_push 1 (.int 1)) r (mx_G r (t_Mo_entry zz)) 141 ls st h c n := mx_G_eq (tm_Mo_entry zz) r 141 ls st h c n
theorem st_Mo_entry_142 (zz : Nat × Nat) (r : mx_T) (ls : mx_L) (st : List Value) (h : mx_H) (c n : Nat) : mx_G r (t_Mo_entry zz) 142 ls st h c n = (o_ii (fun x y => x + y)) r (mx_G r (t_Mo_entry zz)) 142 ls st h c n := mx_G_eq (tm_Mo_entry zz) r 142 ls st h c n
theorem st_Mo_entry_143 (zz : Nat × Nat) (r : mx_T) (ls : mx_L) (st : List Value) (h : mx_H) (c n : Nat) : mx_G r (t_Mo_entry zz) 143 ls st h c n = (o_iast .int (fun x => x)) r (mx_G r (t_Mo_entry zz)) 143 ls st h c n := mx_G_eq (tm_Mo_entry zz) r 143 ls st h c n
theorem st_Mo_entry_144 (zz : Nat × Nat) (r : mx_T) (ls : mx_L) (st : List Value) (h : mx_H) (c n : Nat) : mx_G r (t_Mo_entry zz) 144 ls st h c n = (o_push 1 (.int 1)) r (mx_G r (t_Mo_entry zz)) 144 ls st h c n := mx_G_eq (tm_Mo_entry zz) r 144 ls st h c n
theorem st_Mo_entry_145 (zz : Nat × Nat) (r : mx_T) (ls : mx_L) (st : List Value) (h : mx_H) (c n : Nat) : mx_G r (t_Mo_entry zz) 145 ls st h c n = (o_zret) r (mx_G r (t_Mo_entry zz)) 145 ls st h c n := mx_G_eq (tm_Mo_entry zz) r 145 ls st h c n
theorem d_Mo_resolves_0 : decode c_Mo_resolves 0 = .ok (.aload_n 0, 1) := by decide +kernel
theorem d_Mo_resolves_1 : decode c_Mo_resolves 1 = .ok (.getfield 56, 3) := by decide +kernel
theorem d_Mo_resolves_4 : decode c_Mo_resolves 4 = .ok (.iload_n 1, 1) := by decide +kernel
theorem d_Mo_resolves_5 : decode c_Mo_resolves 5 = .ok (.iaload, 1) := by decide +kernel
theorem d_Mo_resolves_6 : decode c_Mo_resolves 6 = .ok (.istore_n 2, 1) := by decide +kernel
theorem d_Mo_resolves_7 : decode c_Mo_resolves 7 = .ok (.iconst 1, 1) := by decide +kernel
theorem d_Mo_resolves_8 : decode c_Mo_resolves 8 = .ok (.istore_n 3, 1) := by decide +kernel
theorem d_Mo_resolves_9 : decode c_Mo_resolves 9 = .ok (.bipush 8, 2) := by decide +kernel
theorem d_Mo_resolves_11 : decode c_Mo_resolves 11 = .ok (.iload_n 2, 1) := by decide +kernel
theorem d_Mo_resolves_12 : decode c_Mo_resolves 12 = .ok (.imul, 1) := by decide +kernel
theorem d_Mo_resolves_13 : decode c_Mo_resolves 13 = .ok (.istore 4, 2) := by decide +kernel
theorem d_Mo_resolves_15 : decode c_Mo_resolves 15 = .ok (.iload 4, 2) := by decide +kernel
theorem d_Mo_resolves_17 : decode c_Mo_resolves 17 = .ok (.bipush 8, 2) := by decide +kernel
theorem d_Mo_resolves_19 : decode c_Mo_resolves 19 = .ok (.iload_n 2, 1) := by decide +kernel
theorem d_Mo_resolves_20 : decode c_Mo_resolves 20 = .ok (.imul, 1) := by decide +kernel
theorem d_Mo_resolves_21 : decode c_Mo_resolves 21 = .ok (.aload_n 0, 1) := by decide +kernel
theorem d_Mo_resolves_22 : decode c_Mo_resolves 22 = .ok (.getfield 59, 3) := by decide +kernel
theorem d_Mo_resolves_25 : decode c_Mo_resolves 25 = .ok (.iload_n 2, 1) := by decide +kernel
theorem d_Mo_resolves_26 : decode c_Mo_resolves 26 = .ok (.iaload, 1) := by decide +kernel
theorem d_Mo_resolves_27 : decode c_Mo_resolves 27 = .ok (.iadd, 1) := by decide +kernel
theorem d_Mo_resolves_28 : decode c_Mo_resolves 28 = .ok (.if_icmp .ge 29, 3) := by decide +kernel
theorem d_Mo_resolves_31 : decode c_Mo_resolves 31 = .ok (.iload_n 3, 1) := by decide +kernel
theorem d_Mo_resolves_32 : decode c_Mo_resolves 32 = .ok (.ifCond .eq 17, 3) := by decide +kernel
theorem d_Mo_resolves_35 : decode c_Mo_resolves 35 = .ok (.aload_n 0, 1) := by decide +kernel
theorem d_Mo_resolves_36 : decode c_Mo_resolves 36 = .ok (.getfield 62, 3) := by decide +kernel
theorem d_Mo_resolves_39 : decode c_Mo_resolves 39 = .ok (.iload 4, 2) := by decide +kernel
theorem d_Mo_resolves_41 : decode c_Mo_resolves 41 = .ok (.iaload, 1) := by decide +kernel
theorem d_Mo_resolves_42 : decode c_Mo_resolves 42 = .ok (.ifCond .ne 7, 3) := by decide +kernel
theorem d_Mo_resolves_45 : decode c_Mo_resolves 45 = .ok (.iconst 1, 1) := by decide +kernel
theorem d_Mo_resolves_46 : decode c_Mo_resolves 46 = .ok (.goto 4, 3) := by decide +kernel
theorem d_Mo_resolves_49 : decode c_Mo_resolves 49 = .ok (.iconst 0, 1) := by decide +kernel
theorem d_Mo_resolves_50 : decode c_Mo_resolves 50 = .ok (.istore_n 3, 1) := by decide +kernel
theorem d_Mo_resolves_51 : decode c_Mo_resolves 51 = .ok (.iinc 4 1, 3) := by decide +kernel
theorem d_Mo_resolves_54 : decode c_Mo_resolves 54 = .ok (.goto (-39), 3) := by decide +kernel
theorem d_Mo_resolves_57 : decode c_Mo_resolves 57 = .ok (.iconst 3, 1) := by decide +kernel
theorem d_Mo_resolves_58 : decode c_Mo_resolves 58 = .ok (.iload_n 1, 1) := by decide +kernel
theorem d_Mo_resolves_59 : decode c_Mo_resolves 59 = .ok (.imul, 1) := by decide +kernel
theorem d_Mo_resolves_60 : decode c_Mo_resolves 60 = .ok (.istore 4, 2) := by decide +kernel
theorem d_Mo_resolves_62 : decode c_Mo_resolves 62 = .ok (.iload 4, 2) := by decide +kernel
theorem d_Mo_resolves_64 : decode c_Mo_resolves 64 = .ok (.iconst 3, 1) := by decide +kernel
theorem d_Mo_resolves_65 : decode c_Mo_resolves 65 = .ok (.iload_n 1, 1) := by decide +kernel
theorem d_Mo_resolves_66 : decode c_Mo_resolves 66 = .ok (.imul, 1) := by decide +kernel
theorem d_Mo_resolves_67 : decode c_Mo_resolves 67 = .ok (.iconst 3, 1) := by decide +kernel
theorem d_Mo_resolves_68 : decode c_Mo_resolves 68 = .ok (.iadd, 1) := by decide +kernel
theorem d_Mo_resolves_69 : decode c_Mo_resolves 69 = .ok (.if_icmp .ge 109, 3) := by decide +kernel
theorem d_Mo_resolves_72 : decode c_Mo_resolves 72 = .ok (.aload_n 0, 1) := by decide +kernel
theorem d_Mo_resolves_73 : decode c_Mo_resolves 73 = .ok (.getfield 53, 3) := by decide +kernel
theorem d_Mo_resolves_76 : decode c_Mo_resolves 76 = .ok (.iload 4, 2) := by decide +kernel
theorem d_Mo_resolves_78 : decode c_Mo_resolves 78 = .ok (.iaload, 1) := by decide +kernel
theorem d_Mo_resolves_79 : decode c_Mo_resolves 79 = .ok (.iconst (-1), 1) := by decide +kernel
theorem d_Mo_resolves_80 : decode c_Mo_resolves 80 = .ok (.if_icmp .ne 7, 3) := by decide +kernel
theorem d_Mo_resolves_83 : decode c_Mo_resolves 83 = .ok (.iconst 1, 1) := by decide +kernel
theorem d_Mo_resolves_84 : decode c_Mo_resolves 84 = .ok (.goto 4, 3) := by decide +kernel
theorem d_Mo_resolves_87 : decode c_Mo_resolves 87 = .ok (.iconst 0, 1) := by decide +kernel
theorem d_Mo_resolves_88 : decode c_Mo_resolves 88 = .ok (.istore 5, 2) := by decide +kernel
theorem d_Mo_resolves_90 : decode c_Mo_resolves 90 = .ok (.bipush 8, 2) := by decide +kernel
theorem d_Mo_resolves_92 : decode c_Mo_resolves 92 = .ok (.iload_n 2, 1) := by decide +kernel
theorem d_Mo_resolves_93 : decode c_Mo_resolves 93 = .ok (.imul, 1) := by decide +kernel
theorem d_Mo_resolves_94 : decode c_Mo_resolves 94 = .ok (.istore 6, 2) := by decide +kernel
theorem d_Mo_resolves_96 : decode c_Mo_resolves 96 = .ok (.iload 6, 2) := by decide +kernel
theorem d_Mo_resolves_98 : decode c_Mo_resolves 98 = .ok (.bipush 8, 2) := by decide +kernel
theorem d_Mo_resolves_100 : decode c_Mo_resolves 100 = .ok (.iload_n 2, 1) := by decide +kernel
theorem d_Mo_resolves_101 : decode c_Mo_resolves 101 = .ok (.imul, 1) := by decide +kernel
theorem d_Mo_resolves_102 : decode c_Mo_resolves 102 = .ok (.aload_n 0, 1) := by decide +kernel
theorem d_Mo_resolves_103 : decode c_Mo_resolves 103 = .ok (.getfield 59, 3) := by decide +kernel
theorem d_Mo_resolves_106 : decode c_Mo_resolves 106 = .ok (.iload_n 2, 1) := by decide +kernel
theorem d_Mo_resolves_107 : decode c_Mo_resolves 107 = .ok (.iaload, 1) := by decide +kernel
theorem d_Mo_resolves_108 : decode c_Mo_resolves 108 = .ok (.iadd, 1) := by decide +kernel
theorem d_Mo_resolves_109 : decode c_Mo_resolves 109 = .ok (.if_icmp .ge 48, 3) := by decide +kernel
theorem d_Mo_resolves_112 : decode c_Mo_resolves 112 = .ok (.iload 5, 2) := by decide +kernel
theorem d_Mo_resolves_114 : decode c_Mo_resolves 114 = .ok (.ifCond .ne 30, 3) := by decide +kernel
theorem d_Mo_resolves_117 : decode c_Mo_resolves 117 = .ok (.aload_n 0, 1) := by decide +kernel
theorem d_Mo_resolves_118 : decode c_Mo_resolves 118 = .ok (.getfield 62, 3) := by decide +kernel
theorem d_Mo_resolves_121 : decode c_Mo_resolves 121 = .ok (.iload 6, 2) := by decide +kernel
theorem d_Mo_resolves_123 : decode c_Mo_resolves 123 = .ok (.iaload, 1) := by decide +kernel
theorem d_Mo_resolves_124 : decode c_Mo_resolves 124 = .ok (.ifCond .ne 24, 3) := by decide +kernel
theorem d_Mo_resolves_127 : decode c_Mo_resolves 127 = .ok (.aload_n 0, 1) := by decide +kernel
theorem d_Mo_resolves_128 : decode c_Mo_resolves 128 = .ok (.getfield 65, 3) := by decide +kernel
theorem d_Mo_resolves_131 : decode c_Mo_resolves 131 = .ok (.iload 6, 2) := by decide +kernel
theorem d_Mo_resolves_133 : decode c_Mo_resolves 133 = .ok (.iaload, 1) := by decide +kernel
theorem d_Mo_resolves_134 : decode c_Mo_resolves 134 = .ok (.aload_n 0, 1) := by decide +kernel
theorem d_Mo_resolves_135 : decode c_Mo_resolves 135 = .ok (.getfield 53, 3) := by decide +kernel
theorem d_Mo_resolves_138 : decode c_Mo_resolves 138 = .ok (.iload 4, 2) := by decide +kernel
theorem d_Mo_resolves_140 : decode c_Mo_resolves 140 = .ok (.iaload, 1) := by decide +kernel
theorem d_Mo_resolves_141 : decode c_Mo_resolves 141 = .ok (.if_icmp .ne 7, 3) := by decide +kernel
theorem d_Mo_resolves_144 : decode c_Mo_resolves 144 = .ok (.iconst 1, 1) := by decide +kernel
theorem d_Mo_resolves_145 : decode c_Mo_resolves 145 = .ok (.goto 4, 3) := by decide +kernel
theorem d_Mo_resolves_148 : decode c_Mo_resolves 148 = .ok (.iconst 0, 1) := by decide +kernel
theorem d_Mo_resolves_149 : decode c_Mo_resolves 149 = .ok (.istore 5, 2) := by decide +kernel
theorem d_Mo_resolves_151 : decode c_Mo_resolves 151 = .ok (.iinc 6 1, 3) := by decide +kernel
theorem d_Mo_resolves_154 : decode c_Mo_resolves 154 = .ok (.goto (-58), 3) := by decide +kernel
theorem d_Mo_resolves_157 : decode c_Mo_resolves 157 = .ok (.iload_n 3, 1) := by decide +kernel
theorem d_Mo_resolves_158 : decode c_Mo_resolves 158 = .ok (.ifCond .eq 12, 3) := by decide +kernel
theorem d_Mo_resolves_161 : decode c_Mo_resolves 161 = .ok (.iload 5, 2) := by decide +kernel
theorem d_Mo_resolves_163 : decode c_Mo_resolves 163 = .ok (.ifCond .eq 7, 3) := by decide +kernel
theorem d_Mo_resolves_166 : decode c_Mo_resolves 166 = .ok (.iconst 1, 1) := by decide +kernel
theorem d_Mo_resolves_167 : decode c_Mo_resolves 167 = .ok (.goto 4, 3) := by decide +kernel
theorem d_Mo_resolves_170 : decode c_Mo_resolves 170 = .ok (.iconst 0, 1) := by decide +kernel
theorem d_Mo_resolves_171 : decode c_Mo_resolves 171 = .ok (.istore_n 3, 1) := by decide +kernel
theorem d_Mo_resolves_172 : decode c_Mo_resolves 172 = .ok (.iinc 4 1, 3) := by decide +kernel
theorem d_Mo_resolves_175 : decode c_Mo_resolves 175 = .ok (.goto (-113), 3) := by decide +kernel
theorem d_Mo_resolves_178 : decode c_Mo_resolves 178 = .ok (.iload_n 3, 1) := by decide +kernel
theorem d_Mo_resolves_179 : decode c_Mo_resolves 179 = .ok (.ireturn, 1) := by decide +kernel
def t_Mo_resolves (zz : Nat × Nat) : List (Nat × mx_O) := [(0, o_aload 1 0),
  (1, o_get 10 19),
  (4, o_iload 1 1),
  (5, o_iald .int),
  (6, o_istore 1 2),
  (7, o_push 1 (.int 1)),
  (8, o_istore 1 3),
  (9, o_push 2 (.int 8)),
  (11, o_iload 1 2),
  (12, o_ii (fun x y => x * y)),
  (13, o_istore 2 4),
  (15, o_iload 2 4),
  (17, o_push 2 (.int 8)),
  (19, o_iload 1 2),
  (20, o_ii (fun x y => x * y)),
  (21, o_aload 1 0),
  (22, o_get 10 20),
  (25, o_iload 1 2),
  (26, o_iald .int),
  (27, o_ii (fun x y => x + y)),
  (28, o_icmp 57 (fun x y => y ≤ x)),
  (31, o_iload 1 3),
  (32, o_if 49 (fun x => x = 0)),
  (35, o_aload 1 0),
  (36, o_get 10 21),
  (39, o_iload 2 4),
  (41, o_iald .int),
  (42, o_if 49 (fun x => ¬ x = 0)),
  (45, o_push 1 (.int 1)),
  (46, o_goto 50),
  (49, o_push 1 (.int 0)),
  (50, o_istore 1 3),
  (51, o_iinc 4 1),
  (54, o_goto 15),
  (57, o_push 1 (.int 3)),
  (58, o_iload 1 1),
  (59, o_ii (fun x y => x * y)),
  (60, o_istore 2 4),
  (62, o_iload 2 4),
  (64, o_push 1 (.int 3)),
  (65, o_iload 1 1),
  (66, o_ii (fun x y => x * y)),
  (67, o_push 1 (.int 3)),
  (68, o_ii (fun x y => x + y)),
  (69, o_icmp 178 (fun x y => y ≤ x)),
  (72, o_aload 1 0),
  (73, o_get 10 18),
  (76, o_iload 2 4),
  (78, o_iald .int),
  (79, o_push 1 (.int (-1))),
  (80, o_icmp 87 (fun x y => ¬ x = y)),
  (83, o_push 1 (.int 1)),
  (84, o_goto 88),
  (87, o_push 1 (.int 0)),
  (88, o_istore 2 5),
  (90, o_push 2 (.int 8)),
  (92, o_iload 1 2),
  (93, o_ii (fun x y => x * y)),
  (94, o_istore 2 6),
  (96, o_iload 2 6),
  (98, o_push 2 (.int 8)),
  (100, o_iload 1 2),
  (101, o_ii (fun x y => x * y)),
  (102, o_aload 1 0),
  (103, o_get 10 20),
  (106, o_iload 1 2),
  (107, o_iald .int),
  (108, o_ii (fun x y => x + y)),
  (109, o_icmp 157 (fun x y => y ≤ x)),
  (112, o_iload 2 5),
  (114, o_if 144 (fun x => ¬ x = 0)),
  (117, o_aload 1 0),
  (118, o_get 10 21),
  (121, o_iload 2 6),
  (123, o_iald .int),
  (124, o_if 148 (fun x => ¬ x = 0)),
  (127, o_aload 1 0),
  (128, o_get 10 22),
  (131, o_iload 2 6),
  (133, o_iald .int),
  (134, o_aload 1 0),
  (135, o_get 10 18),
  (138, o_iload 2 4),
  (140, o_iald .int),
  (141, o_icmp 148 (fun x y => ¬ x = y)),
  (144, o_push 1 (.int 1)),
  (145, o_goto 149),
  (148, o_push 1 (.int 0)),
  (149, o_istore 2 5),
  (151, o_iinc 6 1),
  (154, o_goto 96),
  (157, o_iload 1 3),
  (158, o_if 170 (fun x => x = 0)),
  (161, o_iload 2 5),
  (163, o_if 170 (fun x => x = 0)),
  (166, o_push 1 (.int 1)),
  (167, o_goto 171),
  (170, o_push 1 (.int 0)),
  (171, o_istore 1 3),
  (172, o_iinc 4 1),
  (175, o_goto 62),
  (178, o_iload 1 3),
  (179, o_zret)]
set_option maxRecDepth 100000 in
theorem tm_Mo_resolves (zz : Nat × Nat) : mx_All (fun _ o => mx_Mono o) (t_Mo_resolves zz) := by
  refine mx_all_cons (mo_st) ?_
  refine mx_all_cons (mo_st) ?_
  refine mx_all_cons (mo_st) ?_
  refine mx_all_cons (mo_sc) ?_
  refine mx_all_cons (mo_st) ?_
  refine mx_all_cons (mo_st) ?_
  refine mx_all_cons (mo_st) ?_
  refine mx_all_cons (mo_st) ?_
  refine mx_all_cons (mo_st) ?_
  refine mx_all_cons (mo_st) ?_
  refine mx_all_cons (mo_st) ?_
  refine mx_all_cons (mo_st) ?_
  refine mx_all_cons (mo_st) ?_
  refine mx_all_cons (mo_st) ?_
  refine mx_all_cons (mo_st) ?_
  refine mx_all_cons (mo_st) ?_
  refine mx_all_cons (mo_st) ?_
  refine mx_all_cons (mo_st) ?_
  refine mx_all_cons (mo_sc) ?_
  refine mx_all_cons (mo_st) ?_
  refine mx_all_cons (mo_br) ?_
  refine mx_all_cons (mo_st) ?_
  refine mx_all_cons (mo_br) ?_
  refine mx_all_cons (mo_st) ?_
  refine mx_all_cons (mo_st) ?_
  refine mx_all_cons (mo_st) ?_
  refine mx_all_cons (mo_sc) ?_
  refine mx_all_cons (mo_br) ?_
  refine mx_all_cons (mo_st) ?_
  refine mx_all_cons (mo_st) ?_
  refine mx_all_cons (mo_st) ?_
  refine mx_all_cons (mo_st) ?_
  refine mx_all_cons (mo_st) ?_
  refine mx_all_cons (mo_st) ?_
  refine mx_all_cons (mo_st) ?_
  refine mx_all_cons (mo_st) ?_
  refine mx_all_cons (mo_st) ?_
  refine mx_all_cons (mo_st) ?_
  refine mx_all_cons (mo_st) ?_
  refine mx_all_cons (mo_st) ?_
  refine mx_all_cons (mo_st) ?_
  refine mx_all_cons (mo_st) ?_
  refine mx_all_cons (mo_st) ?_
  refine mx_all_cons (mo_st) ?_
  refine mx_all_cons (mo_br) ?_
  refine mx_all_cons (mo_st) ?_
  refine mx_all_cons (mo_st) ?_
  refine mx_all_cons (mo_st) ?_
  refine mx_all_cons (mo_sc) ?_
  refine mx_all_cons (mo_st) ?_
  refine mx_all_cons (mo_br) ?_
  refine mx_all_cons (mo_st) ?_
  refine mx_all_cons (mo_st) ?_
  refine mx_all_cons (mo_st) ?_
  refine mx_all_cons (mo_st) ?_
  refine mx_all_cons (mo_st) ?_
  refine mx_all_cons (mo_st) ?_
  refine mx_all_cons (mo_st) ?_
  refine mx_all_cons (mo_st) ?_
  refine mx_all_cons (mo_st) ?_
  refine mx_all_cons (mo_st) ?_
  refine mx_all_cons (mo_st) ?_
  refine mx_all_cons (mo_st) ?_
  refine mx_all_cons (mo_st) ?_
  refine mx_all_cons (mo_st) ?_
  refine mx_all_cons (mo_st) ?_
  refine mx_all_cons (mo_sc) ?_
  refine mx_all_cons (mo_st) ?_
  refine mx_all_cons (mo_br) ?_
  refine mx_all_cons (mo_st) ?_
  refine mx_all_cons (mo_br) ?_
  refine mx_all_cons (mo_st) ?_
  refine mx_all_cons (mo_st) ?_
  refine mx_all_cons (mo_st) ?_
  refine mx_all_cons (mo_sc) ?_
  refine mx_all_cons (mo_br) ?_
  refine mx_all_cons (mo_st) ?_
  refine mx_all_cons (mo_st) ?_
  refine mx_all_cons (mo_st) ?_
  refine mx_all_cons (mo_sc) ?_
  refine mx_all_cons (mo_st) ?_
  refine mx_all_cons (mo_st) ?_
  refine mx_all_cons (mo_st) ?_
  refine mx_all_cons (mo_sc) ?_
  refine mx_all_cons (mo_br) ?_
  refine mx_all_cons (mo_st) ?_
  refine mx_all_cons (mo_st) ?_
  refine mx_all_cons (mo_st) ?_
  refine mx_all_cons (mo_st) ?_
  refine mx_all_cons (mo_st) ?_
  refine mx_all_cons (mo_st) ?_
  refine mx_all_cons (mo_st) ?_
  refine mx_all_cons (mo_br) ?_
  refine mx_all_cons (mo_st) ?_
  refine mx_all_cons (mo_br) ?_
  refine mx_all_cons (mo_st) ?_
  refine mx_all_cons (mo_st) ?_
  refine mx_all_cons (mo_st) ?_
  refine mx_all_cons (mo_st) ?_
  refine mx_all_cons (mo_st) ?_
  refine mx_all_cons (mo_st) ?_
  refine mx_all_cons (mo_st) ?_
  refine mx_all_cons (mo_zret) ?_
  exact mx_all_nil
def S_Mo_resolves (zz : Nat × Nat) : mx_Sp := mx_S 7 0 0 (t_Mo_resolves zz)
theorem sm_Mo_resolves (zz : Nat × Nat) : mx_SMono (S_Mo_resolves zz) := mx_S_mono (tm_Mo_resolves zz)
abbrev rm_Mo_resolves : Room := { frames := 0, cells := 0, slots := 0, locals := 0 }
set_option maxHeartbeats 4000000 in
set_option maxRecDepth 100000 in
theorem m_Mo_resolves (l : Launch) (zz : Nat × Nat) : mx_Met l y_Mo_resolves (wsOf y_Mo_resolves c_Mo_resolves 7 (some .boolean)) rm_Mo_resolves wcl (mx_Z zz) 0 0 (S_Mo_resolves zz) := by
  refine mx_met (cc := c_Mo_resolves) (ret := (some .boolean)) (by decide) rfl ?_
  intro p e s m args below meth c D A Post X hz hr hlk hnm
  have hm : ∀ w ∈ mw, w.before args s = true := fun w h => X.1.2.2.2.2 w (List.mem_cons_of_mem _ h)
  refine mx_all_cons (ok_aload (fun hl kk => lv_aload_n X.1.1 X.1.2.1 d_Mo_resolves_0 rfl hl kk) (fun hl kk => lv_aload_nN X.1.1 X.1.2.1 d_Mo_resolves_0 rfl hl kk)) ?_
  refine mx_all_cons (ok_get (C := "HeaderScheduleModel") (T := T_Mo) (N := 40) X (mw_up in_Mo) rfl 19 (by decide) (hm _ w696) (fun _ h9 => h9) d_Mo_resolves_1) ?_
  refine mx_all_cons (ok_iload (fun hl kk => lv_iload_n X.1.1 X.1.2.1 d_Mo_resolves_4 rfl hl kk)) ?_
  refine mx_all_cons (ok_iald X d_Mo_resolves_5) ?_
  refine mx_all_cons (ok_istore (fun hl kk => lv_istore_n X.1.1 X.1.2.1 d_Mo_resolves_6 rfl hl (by decide) rfl kk)) ?_
  refine mx_all_cons (ok_push (fun kk => lv_iconst X.1.1 X.1.2.1 d_Mo_resolves_7 (by decide) kk)) ?_
  refine mx_all_cons (ok_istore (fun hl kk => lv_istore_n X.1.1 X.1.2.1 d_Mo_resolves_8 rfl hl (by decide) rfl kk)) ?_
  refine mx_all_cons (ok_push (fun kk => lv_bipush X.1.1 X.1.2.1 d_Mo_resolves_9 (by decide) kk)) ?_
  refine mx_all_cons (ok_iload (fun hl kk => lv_iload_n X.1.1 X.1.2.1 d_Mo_resolves_11 rfl hl kk)) ?_
  refine mx_all_cons (ok_ii (fun kk => lv_imul X.1.1 X.1.2.1 d_Mo_resolves_12 kk)) ?_
  refine mx_all_cons (ok_istore (fun hl kk => lv_istore X.1.1 X.1.2.1 d_Mo_resolves_13 hl (by decide) rfl kk)) ?_
  refine mx_all_cons (ok_iload (fun hl kk => lv_iload X.1.1 X.1.2.1 d_Mo_resolves_15 hl kk)) ?_
  refine mx_all_cons (ok_push (fun kk => lv_bipush X.1.1 X.1.2.1 d_Mo_resolves_17 (by decide) kk)) ?_
  refine mx_all_cons (ok_iload (fun hl kk => lv_iload_n X.1.1 X.1.2.1 d_Mo_resolves_19 rfl hl kk)) ?_
  refine mx_all_cons (ok_ii (fun kk => lv_imul X.1.1 X.1.2.1 d_Mo_resolves_20 kk)) ?_
  refine mx_all_cons (ok_aload (fun hl kk => lv_aload_n X.1.1 X.1.2.1 d_Mo_resolves_21 rfl hl kk) (fun hl kk => lv_aload_nN X.1.1 X.1.2.1 d_Mo_resolves_21 rfl hl kk)) ?_
  refine mx_all_cons (ok_get (C := "HeaderScheduleModel") (T := T_Mo) (N := 40) X (mw_up in_Mo) rfl 20 (by decide) (hm _ w697) (fun _ h9 => h9) d_Mo_resolves_22) ?_
  refine mx_all_cons (ok_iload (fun hl kk => lv_iload_n X.1.1 X.1.2.1 d_Mo_resolves_25 rfl hl kk)) ?_
  refine mx_all_cons (ok_iald X d_Mo_resolves_26) ?_
  refine mx_all_cons (ok_ii (fun kk => lv_iadd X.1.1 X.1.2.1 d_Mo_resolves_27 kk)) ?_
  refine mx_all_cons (ok_icmp (fun kt kf => lv_icmp_ge X.1.1 X.1.2.1 d_Mo_resolves_28 (by decide) kt kf)) ?_
  refine mx_all_cons (ok_iload (fun hl kk => lv_iload_n X.1.1 X.1.2.1 d_Mo_resolves_31 rfl hl kk)) ?_
  refine mx_all_cons (ok_if (fun kt kf => lv_if_eq X.1.1 X.1.2.1 d_Mo_resolves_32 (by decide) kt kf)) ?_
  refine mx_all_cons (ok_aload (fun hl kk => lv_aload_n X.1.1 X.1.2.1 d_Mo_resolves_35 rfl hl kk) (fun hl kk => lv_aload_nN X.1.1 X.1.2.1 d_Mo_resolves_35 rfl hl kk)) ?_
  refine mx_all_cons (ok_get (C := "HeaderScheduleModel") (T := T_Mo) (N := 40) X (mw_up in_Mo) rfl 21 (by decide) (hm _ w698) (fun _ h9 => h9) d_Mo_resolves_36) ?_
  refine mx_all_cons (ok_iload (fun hl kk => lv_iload X.1.1 X.1.2.1 d_Mo_resolves_39 hl kk)) ?_
  refine mx_all_cons (ok_iald X d_Mo_resolves_41) ?_
  refine mx_all_cons (ok_if (fun kt kf => lv_if_ne X.1.1 X.1.2.1 d_Mo_resolves_42 (by decide) kt (fun z => kf (fun g => g z)))) ?_
  refine mx_all_cons (ok_push (fun kk => lv_iconst X.1.1 X.1.2.1 d_Mo_resolves_45 (by decide) kk)) ?_
  refine mx_all_cons (ok_goto X d_Mo_resolves_46 (by decide)) ?_
  refine mx_all_cons (ok_push (fun kk => lv_iconst X.1.1 X.1.2.1 d_Mo_resolves_49 (by decide) kk)) ?_
  refine mx_all_cons (ok_istore (fun hl kk => lv_istore_n X.1.1 X.1.2.1 d_Mo_resolves_50 rfl hl (by decide) rfl kk)) ?_
  refine mx_all_cons (ok_iinc X (by decide) (by decide) d_Mo_resolves_51) ?_
  refine mx_all_cons (ok_goto X d_Mo_resolves_54 (by decide)) ?_
  refine mx_all_cons (ok_push (fun kk => lv_iconst X.1.1 X.1.2.1 d_Mo_resolves_57 (by decide) kk)) ?_
  refine mx_all_cons (ok_iload (fun hl kk => lv_iload_n X.1.1 X.1.2.1 d_Mo_resolves_58 rfl hl kk)) ?_
  refine mx_all_cons (ok_ii (fun kk => lv_imul X.1.1 X.1.2.1 d_Mo_resolves_59 kk)) ?_
  refine mx_all_cons (ok_istore (fun hl kk => lv_istore X.1.1 X.1.2.1 d_Mo_resolves_60 hl (by decide) rfl kk)) ?_
  refine mx_all_cons (ok_iload (fun hl kk => lv_iload X.1.1 X.1.2.1 d_Mo_resolves_62 hl kk)) ?_
  refine mx_all_cons (ok_push (fun kk => lv_iconst X.1.1 X.1.2.1 d_Mo_resolves_64 (by decide) kk)) ?_
  refine mx_all_cons (ok_iload (fun hl kk => lv_iload_n X.1.1 X.1.2.1 d_Mo_resolves_65 rfl hl kk)) ?_
  refine mx_all_cons (ok_ii (fun kk => lv_imul X.1.1 X.1.2.1 d_Mo_resolves_66 kk)) ?_
  refine mx_all_cons (ok_push (fun kk => lv_iconst X.1.1 X.1.2.1 d_Mo_resolves_67 (by decide) kk)) ?_
  refine mx_all_cons (ok_ii (fun kk => lv_iadd X.1.1 X.1.2.1 d_Mo_resolves_68 kk)) ?_
  refine mx_all_cons (ok_icmp (fun kt kf => lv_icmp_ge X.1.1 X.1.2.1 d_Mo_resolves_69 (by decide) kt kf)) ?_
  refine mx_all_cons (ok_aload (fun hl kk => lv_aload_n X.1.1 X.1.2.1 d_Mo_resolves_72 rfl hl kk) (fun hl kk => lv_aload_nN X.1.1 X.1.2.1 d_Mo_resolves_72 rfl hl kk)) ?_
  refine mx_all_cons (ok_get (C := "HeaderScheduleModel") (T := T_Mo) (N := 40) X (mw_up in_Mo) rfl 18 (by decide) (hm _ w695) (fun _ h9 => h9) d_Mo_resolves_73) ?_
  refine mx_all_cons (ok_iload (fun hl kk => lv_iload X.1.1 X.1.2.1 d_Mo_resolves_76 hl kk)) ?_
  refine mx_all_cons (ok_iald X d_Mo_resolves_78) ?_
  refine mx_all_cons (ok_push (fun kk => lv_iconst X.1.1 X.1.2.1 d_Mo_resolves_79 (by decide) kk)) ?_
  refine mx_all_cons (ok_icmp (fun kt kf => lv_icmp_ne X.1.1 X.1.2.1 d_Mo_resolves_80 (by decide) kt (fun z => kf (fun g => g z)))) ?_
  refine mx_all_cons (ok_push (fun kk => lv_iconst X.1.1 X.1.2.1 d_Mo_resolves_83 (by decide) kk)) ?_
  refine mx_all_cons (ok_goto X d_Mo_resolves_84 (by decide)) ?_
  refine mx_all_cons (ok_push (fun kk => lv_iconst X.1.1 X.1.2.1 d_Mo_resolves_87 (by decide) kk)) ?_
  refine mx_all_cons (ok_istore (fun hl kk => lv_istore X.1.1 X.1.2.1 d_Mo_resolves_88 hl (by decide) rfl kk)) ?_
  refine mx_all_cons (ok_push (fun kk => lv_bipush X.1.1 X.1.2.1 d_Mo_resolves_90 (by decide) kk)) ?_
  refine mx_all_cons (ok_iload (fun hl kk => lv_iload_n X.1.1 X.1.2.1 d_Mo_resolves_92 rfl hl kk)) ?_
  refine mx_all_cons (ok_ii (fun kk => lv_imul X.1.1 X.1.2.1 d_Mo_resolves_93 kk)) ?_
  refine mx_all_cons (ok_istore (fun hl kk => lv_istore X.1.1 X.1.2.1 d_Mo_resolves_94 hl (by decide) rfl kk)) ?_
  refine mx_all_cons (ok_iload (fun hl kk => lv_iload X.1.1 X.1.2.1 d_Mo_resolves_96 hl kk)) ?_
  refine mx_all_cons (ok_push (fun kk => lv_bipush X.1.1 X.1.2.1 d_Mo_resolves_98 (by decide) kk)) ?_
  refine mx_all_cons (ok_iload (fun hl kk => lv_iload_n X.1.1 X.1.2.1 d_Mo_resolves_100 rfl hl kk)) ?_
  refine mx_all_cons (ok_ii (fun kk => lv_imul X.1.1 X.1.2.1 d_Mo_resolves_101 kk)) ?_
  refine mx_all_cons (ok_aload (fun hl kk => lv_aload_n X.1.1 X.1.2.1 d_Mo_resolves_102 rfl hl kk) (fun hl kk => lv_aload_nN X.1.1 X.1.2.1 d_Mo_resolves_102 rfl hl kk)) ?_
  refine mx_all_cons (ok_get (C := "HeaderScheduleModel") (T := T_Mo) (N := 40) X (mw_up in_Mo) rfl 20 (by decide) (hm _ w697) (fun _ h9 => h9) d_Mo_resolves_103) ?_
  refine mx_all_cons (ok_iload (fun hl kk => lv_iload_n X.1.1 X.1.2.1 d_Mo_resolves_106 rfl hl kk)) ?_
  refine mx_all_cons (ok_iald X d_Mo_resolves_107) ?_
  refine mx_all_cons (ok_ii (fun kk => lv_iadd X.1.1 X.1.2.1 d_Mo_resolves_108 kk)) ?_
  refine mx_all_cons (ok_icmp (fun kt kf => lv_icmp_ge X.1.1 X.1.2.1 d_Mo_resolves_109 (by decide) kt kf)) ?_
  refine mx_all_cons (ok_iload (fun hl kk => lv_iload X.1.1 X.1.2.1 d_Mo_resolves_112 hl kk)) ?_
  refine mx_all_cons (ok_if (fun kt kf => lv_if_ne X.1.1 X.1.2.1 d_Mo_resolves_114 (by decide) kt (fun z => kf (fun g => g z)))) ?_
  refine mx_all_cons (ok_aload (fun hl kk => lv_aload_n X.1.1 X.1.2.1 d_Mo_resolves_117 rfl hl kk) (fun hl kk => lv_aload_nN X.1.1 X.1.2.1 d_Mo_resolves_117 rfl hl kk)) ?_
  refine mx_all_cons (ok_get (C := "HeaderScheduleModel") (T := T_Mo) (N := 40) X (mw_up in_Mo) rfl 21 (by decide) (hm _ w698) (fun _ h9 => h9) d_Mo_resolves_118) ?_
  refine mx_all_cons (ok_iload (fun hl kk => lv_iload X.1.1 X.1.2.1 d_Mo_resolves_121 hl kk)) ?_
  refine mx_all_cons (ok_iald X d_Mo_resolves_123) ?_
  refine mx_all_cons (ok_if (fun kt kf => lv_if_ne X.1.1 X.1.2.1 d_Mo_resolves_124 (by decide) kt (fun z => kf (fun g => g z)))) ?_
  refine mx_all_cons (ok_aload (fun hl kk => lv_aload_n X.1.1 X.1.2.1 d_Mo_resolves_127 rfl hl kk) (fun hl kk => lv_aload_nN X.1.1 X.1.2.1 d_Mo_resolves_127 rfl hl kk)) ?_
  refine mx_all_cons (ok_get (C := "HeaderScheduleModel") (T := T_Mo) (N := 40) X (mw_up in_Mo) rfl 22 (by decide) (hm _ w699) (fun _ h9 => h9) d_Mo_resolves_128) ?_
  refine mx_all_cons (ok_iload (fun hl kk => lv_iload X.1.1 X.1.2.1 d_Mo_resolves_131 hl kk)) ?_
  refine mx_all_cons (ok_iald X d_Mo_resolves_133) ?_
  refine mx_all_cons (ok_aload (fun hl kk => lv_aload_n X.1.1 X.1.2.1 d_Mo_resolves_134 rfl hl kk) (fun hl kk => lv_aload_nN X.1.1 X.1.2.1 d_Mo_resolves_134 rfl hl kk)) ?_
  refine mx_all_cons (ok_get (C := "HeaderScheduleModel") (T := T_Mo) (N := 40) X (mw_up in_Mo) rfl 18 (by decide) (hm _ w695) (fun _ h9 => h9) d_Mo_resolves_135) ?_
  refine mx_all_cons (ok_iload (fun hl kk => lv_iload X.1.1 X.1.2.1 d_Mo_resolves_138 hl kk)) ?_
  refine mx_all_cons (ok_iald X d_Mo_resolves_140) ?_
  refine mx_all_cons (ok_icmp (fun kt kf => lv_icmp_ne X.1.1 X.1.2.1 d_Mo_resolves_141 (by decide) kt (fun z => kf (fun g => g z)))) ?_
  refine mx_all_cons (ok_push (fun kk => lv_iconst X.1.1 X.1.2.1 d_Mo_resolves_144 (by decide) kk)) ?_
  refine mx_all_cons (ok_goto X d_Mo_resolves_145 (by decide)) ?_
  refine mx_all_cons (ok_push (fun kk => lv_iconst X.1.1 X.1.2.1 d_Mo_resolves_148 (by decide) kk)) ?_
  refine mx_all_cons (ok_istore (fun hl kk => lv_istore X.1.1 X.1.2.1 d_Mo_resolves_149 hl (by decide) rfl kk)) ?_
  refine mx_all_cons (ok_iinc X (by decide) (by decide) d_Mo_resolves_151) ?_
  refine mx_all_cons (ok_goto X d_Mo_resolves_154 (by decide)) ?_
  refine mx_all_cons (ok_iload (fun hl kk => lv_iload_n X.1.1 X.1.2.1 d_Mo_resolves_157 rfl hl kk)) ?_
  refine mx_all_cons (ok_if (fun kt kf => lv_if_eq X.1.1 X.1.2.1 d_Mo_resolves_158 (by decide) kt kf)) ?_
  refine mx_all_cons (ok_iload (fun hl kk => lv_iload X.1.1 X.1.2.1 d_Mo_resolves_161 hl kk)) ?_
  refine mx_all_cons (ok_if (fun kt kf => lv_if_eq X.1.1 X.1.2.1 d_Mo_resolves_163 (by decide) kt kf)) ?_
  refine mx_all_cons (ok_push (fun kk => lv_iconst X.1.1 X.1.2.1 d_Mo_resolves_166 (by decide) kk)) ?_
  refine mx_all_cons (ok_goto X d_Mo_resolves_167 (by decide)) ?_
  refine mx_all_cons (ok_push (fun kk => lv_iconst X.1.1 X.1.2.1 d_Mo_resolves_170 (by decide) kk)) ?_
  refine mx_all_cons (ok_istore (fun hl kk => lv_istore_n X.1.1 X.1.2.1 d_Mo_resolves_171 rfl hl (by decide) rfl kk)) ?_
  refine mx_all_cons (ok_iinc X (by decide) (by decide) d_Mo_resolves_172) ?_
  refine mx_all_cons (ok_goto X d_Mo_resolves_175 (by decide)) ?_
  refine mx_all_cons (ok_iload (fun hl kk => lv_iload_n X.1.1 X.1.2.1 d_Mo_resolves_178 rfl hl kk)) ?_
  refine mx_all_cons (ok_zret X hr hlk d_Mo_resolves_179) ?_
  exact mx_all_nil
theorem st_Mo_resolves_0 (zz : Nat × Nat) (r : mx_T) (ls : mx_L) (st : List Value) (h : mx_H) (c n : Nat) : mx_G r (t_Mo_resolves zz) 0 ls st h c n = (o_aload 1 0) r (mx_G r (t_Mo_resolves zz)) 0 ls st h c n := mx_G_eq (tm_Mo_resolves zz) r 0 ls st h c n
theorem st_Mo_resolves_1 (zz : Nat × Nat) (r : mx_T) (ls : mx_L) (st : List Value) (h : mx_H) (c n : Nat) : mx_G r (t_Mo_resolves zz) 1 ls st h c n = (o_get 10 19) r (mx_G r (t_Mo_resolves zz)) 1 ls st h c n := mx_G_eq (tm_Mo_resolves zz) r 1 ls st h c n
theorem st_Mo_resolves_4 (zz : Nat × Nat) (r : mx_T) (ls : mx_L) (st : List Value) (h : mx_H) (c n : Nat) : mx_G r (t_Mo_resolves zz) 4 ls st h c n = (o_iload 1 1) r (mx_G r (t_Mo_resolves zz)) 4 ls st h c n := mx_G_eq (tm_Mo_resolves zz) r 4 ls st h c n
theorem st_Mo_resolves_5 (zz : Nat × Nat) (r : mx_T) (ls : mx_L) (st : List Value) (h : mx_H) (c n : Nat) : mx_G r (t_Mo_resolves zz) 5 ls st h c n = (o_iald .int) r (mx_G r (t_Mo_resolves zz)) 5 ls st h c n := mx_G_eq (tm_Mo_resolves zz) r 5 ls st h c n
theorem st_Mo_resolves_6 (zz : Nat × Nat) (r : mx_T) (ls : mx_L) (st : List Value) (h : mx_H) (c n : Nat) : mx_G r (t_Mo_resolves zz) 6 ls st h c n = (o_istore 1 2) r (mx_G r (t_Mo_resolves zz)) 6 ls st h c n := mx_G_eq (tm_Mo_resolves zz) r 6 ls st h c n
theorem st_Mo_resolves_7 (zz : Nat × Nat) (r : mx_T) (ls : mx_L) (st : List Value) (h : mx_H) (c n : Nat) : mx_G r (t_Mo_resolves zz) 7 ls st h c n = (o_push 1 (.int 1)) r (mx_G r (t_Mo_resolves zz)) 7 ls st h c n := mx_G_eq (tm_Mo_resolves zz) r 7 ls st h c n
theorem st_Mo_resolves_8 (zz : Nat × Nat) (r : mx_T) (ls : mx_L) (st : List Value) (h : mx_H) (c n : Nat) : mx_G r (t_Mo_resolves zz) 8 ls st h c n = (o_istore 1 3) r (mx_G r (t_Mo_resolves zz)) 8 ls st h c n := mx_G_eq (tm_Mo_resolves zz) r 8 ls st h c n
theorem st_Mo_resolves_9 (zz : Nat × Nat) (r : mx_T) (ls : mx_L) (st : List Value) (h : mx_H) (c n : Nat) : mx_G r (t_Mo_resolves zz) 9 ls st h c n = (o_push 2 (.int 8)) r (mx_G r (t_Mo_resolves zz)) 9 ls st h c n := mx_G_eq (tm_Mo_resolves zz) r 9 ls st h c n
theorem st_Mo_resolves_11 (zz : Nat × Nat) (r : mx_T) (ls : mx_L) (st : List Value) (h : mx_H) (c n : Nat) : mx_G r (t_Mo_resolves zz) 11 ls st h c n = (o_iload 1 2) r (mx_G r (t_Mo_resolves zz)) 11 ls st h c n := mx_G_eq (tm_Mo_resolves zz) r 11 ls st h c n
theorem st_Mo_resolves_12 (zz : Nat × Nat) (r : mx_T) (ls : mx_L) (st : List Value) (h : mx_H) (c n : Nat) : mx_G r (t_Mo_resolves zz) 12 ls st h c n = (o_ii (fun x y => x * y)) r (mx_G r (t_Mo_resolves zz)) 12 ls st h c n := mx_G_eq (tm_Mo_resolves zz) r 12 ls st h c n
theorem st_Mo_resolves_13 (zz : Nat × Nat) (r : mx_T) (ls : mx_L) (st : List Value) (h : mx_H) (c n : Nat) : mx_G r (t_Mo_resolves zz) 13 ls st h c n = (o_istore 2 4) r (mx_G r (t_Mo_resolves zz)) 13 ls st h c n := mx_G_eq (tm_Mo_resolves zz) r 13 ls st h c n
theorem st_Mo_resolves_15 (zz : Nat × Nat) (r : mx_T) (ls : mx_L) (st : List Value) (h : mx_H) (c n : Nat) : mx_G r (t_Mo_resolves zz) 15 ls st h c n = (o_iload 2 4) r (mx_G r (t_Mo_resolves zz)) 15 ls st h c n := mx_G_eq (tm_Mo_resolves zz) r 15 ls st h c n
theorem st_Mo_resolves_17 (zz : Nat × Nat) (r : mx_T) (ls : mx_L) (st : List Value) (h : mx_H) (c n : Nat) : mx_G r (t_Mo_resolves zz) 17 ls st h c n = (o_push 2 (.int 8)) r (mx_G r (t_Mo_resolves zz)) 17 ls st h c n := mx_G_eq (tm_Mo_resolves zz) r 17 ls st h c n
theorem st_Mo_resolves_19 (zz : Nat × Nat) (r : mx_T) (ls : mx_L) (st : List Value) (h : mx_H) (c n : Nat) : mx_G r (t_Mo_resolves zz) 19 ls st h c n = (o_iload 1 2) r (mx_G r (t_Mo_resolves zz)) 19 ls st h c n := mx_G_eq (tm_Mo_resolves zz) r 19 ls st h c n
theorem st_Mo_resolves_20 (zz : Nat × Nat) (r : mx_T) (ls : mx_L) (st : List Value) (h : mx_H) (c n : Nat) : mx_G r (t_Mo_resolves zz) 20 ls st h c n = (o_ii (fun x y => x * y)) r (mx_G r (t_Mo_resolves zz)) 20 ls st h c n := mx_G_eq (tm_Mo_resolves zz) r 20 ls st h c n
theorem st_Mo_resolves_21 (zz : Nat × Nat) (r : mx_T) (ls : mx_L) (st : List Value) (h : mx_H) (c n : Nat) : mx_G r (t_Mo_resolves zz) 21 ls st h c n = (o_aload 1 0) r (mx_G r (t_Mo_resolves zz)) 21 ls st h c n := mx_G_eq (tm_Mo_resolves zz) r 21 ls st h c n
theorem st_Mo_resolves_22 (zz : Nat × Nat) (r : mx_T) (ls : mx_L) (st : List Value) (h : mx_H) (c n : Nat) : mx_G r (t_Mo_resolves zz) 22 ls st h c n = (o_get 10 20) r (mx_G r (t_Mo_resolves zz)) 22 ls st h c n := mx_G_eq (tm_Mo_resolves zz) r 22 ls st h c n
theorem st_Mo_resolves_25 (zz : Nat × Nat) (r : mx_T) (ls : mx_L) (st : List Value) (h : mx_H) (c n : Nat) : mx_G r (t_Mo_resolves zz) 25 ls st h c n = (o_iload 1 2) r (mx_G r (t_Mo_resolves zz)) 25 ls st h c n := mx_G_eq (tm_Mo_resolves zz) r 25 ls st h c n
theorem st_Mo_resolves_26 (zz : Nat × Nat) (r : mx_T) (ls : mx_L) (st : List Value) (h : mx_H) (c n : Nat) : mx_G r (t_Mo_resolves zz) 26 ls st h c n = (o_iald .int) r (mx_G r (t_Mo_resolves zz)) 26 ls st h c n := mx_G_eq (tm_Mo_resolves zz) r 26 ls st h c n
theorem st_Mo_resolves_27 (zz : Nat × Nat) (r : mx_T) (ls : mx_L) (st : List Value) (h : mx_H) (c n : Nat) : mx_G r (t_Mo_resolves zz) 27 ls st h c n = (o_ii (fun x y => x + y)) r (mx_G r (t_Mo_resolves zz)) 27 ls st h c n := mx_G_eq (tm_Mo_resolves zz) r 27 ls st h c n
theorem st_Mo_resolves_28 (zz : Nat × Nat) (r : mx_T) (ls : mx_L) (st : List Value) (h : mx_H) (c n : Nat) : mx_G r (t_Mo_resolves zz) 28 ls st h c n = (o_icmp 57 (fun x y => y ≤ x)) r (mx_G r (t_Mo_resolves zz)) 28 ls st h c n := mx_G_eq (tm_Mo_resolves zz) r 28 ls st h c n
theorem st_Mo_resolves_31 (zz : Nat × Nat) (r : mx_T) (ls : mx_L) (st : List Value) (h : mx_H) (c n : Nat) : mx_G r (t_Mo_resolves zz) 31 ls st h c n = (o_iload 1 3) r (mx_G r (t_Mo_resolves zz)) 31 ls st h c n := mx_G_eq (tm_Mo_resolves zz) r 31 ls st h c n
theorem st_Mo_resolves_32 (zz : Nat × Nat) (r : mx_T) (ls : mx_L) (st : List Value) (h : mx_H) (c n : Nat) : mx_G r (t_Mo_resolves zz) 32 ls st h c n = (o_if 49 (fun x => x = 0)) r (mx_G r (t_Mo_resolves zz)) 32 ls st h c n := mx_G_eq (tm_Mo_resolves zz) r 32 ls st h c n
theorem st_Mo_resolves_35 (zz : Nat × Nat) (r : mx_T) (ls : mx_L) (st : List Value) (h : mx_H) (c n : Nat) : mx_G r (t_Mo_resolves zz) 35 ls st h c n = (o_aload 1 0) r (mx_G r (t_Mo_resolves zz)) 35 ls st h c n := mx_G_eq (tm_Mo_resolves zz) r 35 ls st h c n
theorem st_Mo_resolves_36 (zz : Nat × Nat) (r : mx_T) (ls : mx_L) (st : List Value) (h : mx_H) (c n : Nat) : mx_G r (t_Mo_resolves zz) 36 ls st h c n = (o_get 10 21) r (mx_G r (t_Mo_resolves zz)) 36 ls st h c n := mx_G_eq (tm_Mo_resolves zz) r 36 ls st h c n
theorem st_Mo_resolves_39 (zz : Nat × Nat) (r : mx_T) (ls : mx_L) (st : List Value) (h : mx_H) (c n : Nat) : mx_G r (t_Mo_resolves zz) 39 ls st h c n = (o_iload 2 4) r (mx_G r (t_Mo_resolves zz)) 39 ls st h c n := mx_G_eq (tm_Mo_resolves zz) r 39 ls st h c n
theorem st_Mo_resolves_41 (zz : Nat × Nat) (r : mx_T) (ls : mx_L) (st : List Value) (h : mx_H) (c n : Nat) : mx_G r (t_Mo_resolves zz) 41 ls st h c n = (o_iald .int) r (mx_G r (t_Mo_resolves zz)) 41 ls st h c n := mx_G_eq (tm_Mo_resolves zz) r 41 ls st h c n
theorem st_Mo_resolves_42 (zz : Nat × Nat) (r : mx_T) (ls : mx_L) (st : List Value) (h : mx_H) (c n : Nat) : mx_G r (t_Mo_resolves zz) 42 ls st h c n = (o_if 49 (fun x => ¬ x = 0)) r (mx_G r (t_Mo_resolves zz)) 42 ls st h c n := mx_G_eq (tm_Mo_resolves zz) r 42 ls st h c n
theorem st_Mo_resolves_45 (zz : Nat × Nat) (r : mx_T) (ls : mx_L) (st : List Value) (h : mx_H) (c n : Nat) : mx_G r (t_Mo_resolves zz) 45 ls st h c n = (o_push 1 (.int 1)) r (mx_G r (t_Mo_resolves zz)) 45 ls st h c n := mx_G_eq (tm_Mo_resolves zz) r 45 ls st h c n
theorem st_Mo_resolves_46 (zz : Nat × Nat) (r : mx_T) (ls : mx_L) (st : List Value) (h : mx_H) (c n : Nat) : mx_G r (t_Mo_resolves zz) 46 ls st h c n = (o_goto 50) r (mx_G r (t_Mo_resolves zz)) 46 ls st h c n := mx_G_eq (tm_Mo_resolves zz) r 46 ls st h c n
theorem st_Mo_resolves_49 (zz : Nat × Nat) (r : mx_T) (ls : mx_L) (st : List Value) (h : mx_H) (c n : Nat) : mx_G r (t_Mo_resolves zz) 49 ls st h c n = (o_push 1 (.int 0)) r (mx_G r (t_Mo_resolves zz)) 49 ls st h c n := mx_G_eq (tm_Mo_resolves zz) r 49 ls st h c n
theorem st_Mo_resolves_50 (zz : Nat × Nat) (r : mx_T) (ls : mx_L) (st : List Value) (h : mx_H) (c n : Nat) : mx_G r (t_Mo_resolves zz) 50 ls st h c n = (o_istore 1 3) r (mx_G r (t_Mo_resolves zz)) 50 ls st h c n := mx_G_eq (tm_Mo_resolves zz) r 50 ls st h c n
theorem st_Mo_resolves_51 (zz : Nat × Nat) (r : mx_T) (ls : mx_L) (st : List Value) (h : mx_H) (c n : Nat) : mx_G r (t_Mo_resolves zz) 51 ls st h c n = (o_iinc 4 1) r (mx_G r (t_Mo_resolves zz)) 51 ls st h c n := mx_G_eq (tm_Mo_resolves zz) r 51 ls st h c n
theorem st_Mo_resolves_54 (zz : Nat × Nat) (r : mx_T) (ls : mx_L) (st : List Value) (h : mx_H) (c n : Nat) : mx_G r (t_Mo_resolves zz) 54 ls st h c n = (o_goto 15) r (mx_G r (t_Mo_resolves zz)) 54 ls st h c n := mx_G_eq (tm_Mo_resolves zz) r 54 ls st h c n
theorem st_Mo_resolves_57 (zz : Nat × Nat) (r : mx_T) (ls : mx_L) (st : List Value) (h : mx_H) (c n : Nat) : mx_G r (t_Mo_resolves zz) 57 ls st h c n = (o_push 1 (.int 3)) r (mx_G r (t_Mo_resolves zz)) 57 ls st h c n := mx_G_eq (tm_Mo_resolves zz) r 57 ls st h c n
theorem st_Mo_resolves_58 (zz : Nat × Nat) (r : mx_T) (ls : mx_L) (st : List Value) (h : mx_H) (c n : Nat) : mx_G r (t_Mo_resolves zz) 58 ls st h c n = (o_iload 1 1) r (mx_G r (t_Mo_resolves zz)) 58 ls st h c n := mx_G_eq (tm_Mo_resolves zz) r 58 ls st h c n
theorem st_Mo_resolves_59 (zz : Nat × Nat) (r : mx_T) (ls : mx_L) (st : List Value) (h : mx_H) (c n : Nat) : mx_G r (t_Mo_resolves zz) 59 ls st h c n = (o_ii (fun x y => x * y)) r (mx_G r (t_Mo_resolves zz)) 59 ls st h c n := mx_G_eq (tm_Mo_resolves zz) r 59 ls st h c n
theorem st_Mo_resolves_60 (zz : Nat × Nat) (r : mx_T) (ls : mx_L) (st : List Value) (h : mx_H) (c n : Nat) : mx_G r (t_Mo_resolves zz) 60 ls st h c n = (o_istore 2 4) r (mx_G r (t_Mo_resolves zz)) 60 ls st h c n := mx_G_eq (tm_Mo_resolves zz) r 60 ls st h c n
theorem st_Mo_resolves_62 (zz : Nat × Nat) (r : mx_T) (ls : mx_L) (st : List Value) (h : mx_H) (c n : Nat) : mx_G r (t_Mo_resolves zz) 62 ls st h c n = (o_iload 2 4) r (mx_G r (t_Mo_resolves zz)) 62 ls st h c n := mx_G_eq (tm_Mo_resolves zz) r 62 ls st h c n
theorem st_Mo_resolves_64 (zz : Nat × Nat) (r : mx_T) (ls : mx_L) (st : List Value) (h : mx_H) (c n : Nat) : mx_G r (t_Mo_resolves zz) 64 ls st h c n = (o_push 1 (.int 3)) r (mx_G r (t_Mo_resolves zz)) 64 ls st h c n := mx_G_eq (tm_Mo_resolves zz) r 64 ls st h c n
theorem st_Mo_resolves_65 (zz : Nat × Nat) (r : mx_T) (ls : mx_L) (st : List Value) (h : mx_H) (c n : Nat) : mx_G r (t_Mo_resolves zz) 65 ls st h c n = (o_iload 1 1) r (mx_G r (t_Mo_resolves zz)) 65 ls st h c n := mx_G_eq (tm_Mo_resolves zz) r 65 ls st h c n
theorem st_Mo_resolves_66 (zz : Nat × Nat) (r : mx_T) (ls : mx_L) (st : List Value) (h : mx_H) (c n : Nat) : mx_G r (t_Mo_resolves zz) 66 ls st h c n = (o_ii (fun x y => x * y)) r (mx_G r (t_Mo_resolves zz)) 66 ls st h c n := mx_G_eq (tm_Mo_resolves zz) r 66 ls st h c n
theorem st_Mo_resolves_67 (zz : Nat × Nat) (r : mx_T) (ls : mx_L) (st : List Value) (h : mx_H) (c n : Nat) : mx_G r (t_Mo_resolves zz) 67 ls st h c n = (o_push 1 (.int 3)) r (mx_G r (t_Mo_resolves zz)) 67 ls st h c n := mx_G_eq (tm_Mo_resolves zz) r 67 ls st h c n
theorem st_Mo_resolves_68 (zz : Nat × Nat) (r : mx_T) (ls : mx_L) (st : List Value) (h : mx_H) (c n : Nat) : mx_G r (t_Mo_resolves zz) 68 ls st h c n = (o_ii (fun x y => x + y)) r (mx_G r (t_Mo_resolves zz)) 68 ls st h c n := mx_G_eq (tm_Mo_resolves zz) r 68 ls st h c n
theorem st_Mo_resolves_69 (zz : Nat × Nat) (r : mx_T) (ls : mx_L) (st : List Value) (h : mx_H) (c n : Nat) : mx_G r (t_Mo_resolves zz) 69 ls st h c n = (o_icmp 178 (fun x y => y ≤ x)) r (mx_G r (t_Mo_resolves zz)) 69 ls st h c n := mx_G_eq (tm_Mo_resolves zz) r 69 ls st h c n
theorem st_Mo_resolves_72 (zz : Nat × Nat) (r : mx_T) (ls : mx_L) (st : List Value) (h : mx_H) (c n : Nat) : mx_G r (t_Mo_resolves zz) 72 ls st h c n = (o_aload 1 0) r (mx_G r (t_Mo_resolves zz)) 72 ls st h c n := mx_G_eq (tm_Mo_resolves zz) r 72 ls st h c n
theorem st_Mo_resolves_73 (zz : Nat × Nat) (r : mx_T) (ls : mx_L) (st : List Value) (h : mx_H) (c n : Nat) : mx_G r (t_Mo_resolves zz) 73 ls st h c n = (o_get 10 18) r (mx_G r (t_Mo_resolves zz)) 73 ls st h c n := mx_G_eq (tm_Mo_resolves zz) r 73 ls st h c n
theorem st_Mo_resolves_76 (zz : Nat × Nat) (r : mx_T) (ls : mx_L) (st : List Value) (h : mx_H) (c n : Nat) : mx_G r (t_Mo_resolves zz) 76 ls st h c n = (o_iload 2 4) r (mx_G r (t_Mo_resolves zz)) 76 ls st h c n := mx_G_eq (tm_Mo_resolves zz) r 76 ls st h c n
theorem st_Mo_resolves_78 (zz : Nat × Nat) (r : mx_T) (ls : mx_L) (st : List Value) (h : mx_H) (c n : Nat) : mx_G r (t_Mo_resolves zz) 78 ls st h c n = (o_iald .int) r (mx_G r (t_Mo_resolves zz)) 78 ls st h c n := mx_G_eq (tm_Mo_resolves zz) r 78 ls st h c n
theorem st_Mo_resolves_79 (zz : Nat × Nat) (r : mx_T) (ls : mx_L) (st : List Value) (h : mx_H) (c n : Nat) : mx_G r (t_Mo_resolves zz) 79 ls st h c n = (o_push 1 (.int (-1))) r (mx_G r (t_Mo_resolves zz)) 79 ls st h c n := mx_G_eq (tm_Mo_resolves zz) r 79 ls st h c n
theorem st_Mo_resolves_80 (zz : Nat × Nat) (r : mx_T) (ls : mx_L) (st : List Value) (h : mx_H) (c n : Nat) : mx_G r (t_Mo_resolves zz) 80 ls st h c n = (o_icmp 87 (fun x y => ¬ x = y)) r (mx_G r (t_Mo_resolves zz)) 80 ls st h c n := mx_G_eq (tm_Mo_resolves zz) r 80 ls st h c n
theorem st_Mo_resolves_83 (zz : Nat × Nat) (r : mx_T) (ls : mx_L) (st : List Value) (h : mx_H) (c n : Nat) : mx_G r (t_Mo_resolves zz) 83 ls st h c n = (o_push 1 (.int 1)) r (mx_G r (t_Mo_resolves zz)) 83 ls st h c n := mx_G_eq (tm_Mo_resolves zz) r 83 ls st h c n
theorem st_Mo_resolves_84 (zz : Nat × Nat) (r : mx_T) (ls : mx_L) (st : List Value) (h : mx_H) (c n : Nat) : mx_G r (t_Mo_resolves zz) 84 ls st h c n = (o_goto 88) r (mx_G r (t_Mo_resolves zz)) 84 ls st h c n := mx_G_eq (tm_Mo_resolves zz) r 84 ls st h c n
theorem st_Mo_resolves_87 (zz : Nat × Nat) (r : mx_T) (ls : mx_L) (st : List Value) (h : mx_H) (c n : Nat) : mx_G r (t_Mo_resolves zz) 87 ls st h c n = (o_push 1 (.int 0)) r (mx_G r (t_Mo_resolves zz)) 87 ls st h c n := mx_G_eq (tm_Mo_resolves zz) r 87 ls st h c n
theorem st_Mo_resolves_88 (zz : Nat × Nat) (r : mx_T) (ls : mx_L) (st : List Value) (h : mx_H) (c n : Nat) : mx_G r (t_Mo_resolves zz) 88 ls st h c n = (o_istore 2 5) r (mx_G r (t_Mo_resolves zz)) 88 ls st h c n := mx_G_eq (tm_Mo_resolves zz) r 88 ls st h c n
theorem st_Mo_resolves_90 (zz : Nat × Nat) (r : mx_T) (ls : mx_L) (st : List Value) (h : mx_H) (c n : Nat) : mx_G r (t_Mo_resolves zz) 90 ls st h c n = (o_push 2 (.int 8)) r (mx_G r (t_Mo_resolves zz)) 90 ls st h c n := mx_G_eq (tm_Mo_resolves zz) r 90 ls st h c n
theorem st_Mo_resolves_92 (zz : Nat × Nat) (r : mx_T) (ls : mx_L) (st : List Value) (h : mx_H) (c n : Nat) : mx_G r (t_Mo_resolves zz) 92 ls st h c n = (o_iload 1 2) r (mx_G r (t_Mo_resolves zz)) 92 ls st h c n := mx_G_eq (tm_Mo_resolves zz) r 92 ls st h c n
theorem st_Mo_resolves_93 (zz : Nat × Nat) (r : mx_T) (ls : mx_L) (st : List Value) (h : mx_H) (c n : Nat) : mx_G r (t_Mo_resolves zz) 93 ls st h c n = (o_ii (fun x y => x * y)) r (mx_G r (t_Mo_resolves zz)) 93 ls st h c n := mx_G_eq (tm_Mo_resolves zz) r 93 ls st h c n
theorem st_Mo_resolves_94 (zz : Nat × Nat) (r : mx_T) (ls : mx_L) (st : List Value) (h : mx_H) (c n : Nat) : mx_G r (t_Mo_resolves zz) 94 ls st h c n = (o_istore 2 6) r (mx_G r (t_Mo_resolves zz)) 94 ls st h c n := mx_G_eq (tm_Mo_resolves zz) r 94 ls st h c n
theorem st_Mo_resolves_96 (zz : Nat × Nat) (r : mx_T) (ls : mx_L) (st : List Value) (h : mx_H) (c n : Nat) : mx_G r (t_Mo_resolves zz) 96 ls st h c n = (o_iload 2 6) r (mx_G r (t_Mo_resolves zz)) 96 ls st h c n := mx_G_eq (tm_Mo_resolves zz) r 96 ls st h c n
theorem st_Mo_resolves_98 (zz : Nat × Nat) (r : mx_T) (ls : mx_L) (st : List Value) (h : mx_H) (c n : Nat) : mx_G r (t_Mo_resolves zz) 98 ls st h c n = (o_push 2 (.int 8)) r (mx_G r (t_Mo_resolves zz)) 98 ls st h c n := mx_G_eq (tm_Mo_resolves zz) r 98 ls st h c n
theorem st_Mo_resolves_100 (zz : Nat × Nat) (r : mx_T) (ls : mx_L) (st : List Value) (h : mx_H) (c n : Nat) : mx_G r (t_Mo_resolves zz) 100 ls st h c n = (o_iload 1 2) r (mx_G r (t_Mo_resolves zz)) 100 ls st h c n := mx_G_eq (tm_Mo_resolves zz) r 100 ls st h c n
theorem st_Mo_resolves_101 (zz : Nat × Nat) (r : mx_T) (ls : mx_L) (st : List Value) (h : mx_H) (c n : Nat) : mx_G r (t_Mo_resolves zz) 101 ls st h c n = (o_ii (fun x y => x * y)) r (mx_G r (t_Mo_resolves zz)) 101 ls st h c n := mx_G_eq (tm_Mo_resolves zz) r 101 ls st h c n
theorem st_Mo_resolves_102 (zz : Nat × Nat) (r : mx_T) (ls : mx_L) (st : List Value) (h : mx_H) (c n : Nat) : mx_G r (t_Mo_resolves zz) 102 ls st h c n = (o_aload 1 0) r (mx_G r (t_Mo_resolves zz)) 102 ls st h c n := mx_G_eq (tm_Mo_resolves zz) r 102 ls st h c n
theorem st_Mo_resolves_103 (zz : Nat × Nat) (r : mx_T) (ls : mx_L) (st : List Value) (h : mx_H) (c n : Nat) : mx_G r (t_Mo_resolves zz) 103 ls st h c n = (o_get 10 20) r (mx_G r (t_Mo_resolves zz)) 103 ls st h c n := mx_G_eq (tm_Mo_resolves zz) r 103 ls st h c n
theorem st_Mo_resolves_106 (zz : Nat × Nat) (r : mx_T) (ls : mx_L) (st : List Value) (h : mx_H) (c n : Nat) : mx_G r (t_Mo_resolves zz) 106 ls st h c n = (o_iload 1 2) r (mx_G r (t_Mo_resolves zz)) 106 ls st h c n := mx_G_eq (tm_Mo_resolves zz) r 106 ls st h c n
theorem st_Mo_resolves_107 (zz : Nat × Nat) (r : mx_T) (ls : mx_L) (st : List Value) (h : mx_H) (c n : Nat) : mx_G r (t_Mo_resolves zz) 107 ls st h c n = (o_iald .int) r (mx_G r (t_Mo_resolves zz)) 107 ls st h c n := mx_G_eq (tm_Mo_resolves zz) r 107 ls st h c n
theorem st_Mo_resolves_108 (zz : Nat × Nat) (r : mx_T) (ls : mx_L) (st : List Value) (h : mx_H) (c n : Nat) : mx_G r (t_Mo_resolves zz) 108 ls st h c n = (o_ii (fun x y => x + y)) r (mx_G r (t_Mo_resolves zz)) 108 ls st h c n := mx_G_eq (tm_Mo_resolves zz) r 108 ls st h c n
theorem st_Mo_resolves_109 (zz : Nat × Nat) (r : mx_T) (ls : mx_L) (st : List Value) (h : mx_H) (c n : Nat) : mx_G r (t_Mo_resolves zz) 109 ls st h c n = (o_icmp 157 (fun x y => y ≤ x)) r (mx_G r (t_Mo_resolves zz)) 109 ls st h c n := mx_G_eq (tm_Mo_resolves zz) r 109 ls st h c n
theorem st_Mo_resolves_112 (zz : Nat × Nat) (r : mx_T) (ls : mx_L) (st : List Value) (h : mx_H) (c n : Nat) : mx_G r (t_Mo_resolves zz) 112 ls st h c n = (o_iload 2 5) r (mx_G r (t_Mo_resolves zz)) 112 ls st h c n := mx_G_eq (tm_Mo_resolves zz) r 112 ls st h c n
theorem st_Mo_resolves_114 (zz : Nat × Nat) (r : mx_T) (ls : mx_L) (st : List Value) (h : mx_H) (c n : Nat) : mx_G r (t_Mo_resolves zz) 114 ls st h c n = (o_if 144 (fun x => ¬ x = 0)) r (mx_G r (t_Mo_resolves zz)) 114 ls st h c n := mx_G_eq (tm_Mo_resolves zz) r 114 ls st h c n
theorem st_Mo_resolves_117 (zz : Nat × Nat) (r : mx_T) (ls : mx_L) (st : List Value) (h : mx_H) (c n : Nat) : mx_G r (t_Mo_resolves zz) 117 ls st h c n = (o_aload 1 0) r (mx_G r (t_Mo_resolves zz)) 117 ls st h c n := mx_G_eq (tm_Mo_resolves zz) r 117 ls st h c n
theorem st_Mo_resolves_118 (zz : Nat × Nat) (r : mx_T) (ls : mx_L) (st : List Value) (h : mx_H) (c n : Nat) : mx_G r (t_Mo_resolves zz) 118 ls st h c n = (o_get 10 21) r (mx_G r (t_Mo_resolves zz)) 118 ls st h c n := mx_G_eq (tm_Mo_resolves zz) r 118 ls st h c n
theorem st_Mo_resolves_121 (zz : Nat × Nat) (r : mx_T) (ls : mx_L) (st : List Value) (h : mx_H) (c n : Nat) : mx_G r (t_Mo_resolves zz) 121 ls st h c n = (o_iload 2 6) r (mx_G r (t_Mo_resolves zz)) 121 ls st h c n := mx_G_eq (tm_Mo_resolves zz) r 121 ls st h c n
theorem st_Mo_resolves_123 (zz : Nat × Nat) (r : mx_T) (ls : mx_L) (st : List Value) (h : mx_H) (c n : Nat) : mx_G r (t_Mo_resolves zz) 123 ls st h c n = (o_iald .int) r (mx_G r (t_Mo_resolves zz)) 123 ls st h c n := mx_G_eq (tm_Mo_resolves zz) r 123 ls st h c n
theorem st_Mo_resolves_124 (zz : Nat × Nat) (r : mx_T) (ls : mx_L) (st : List Value) (h : mx_H) (c n : Nat) : mx_G r (t_Mo_resolves zz) 124 ls st h c n = (o_if 148 (fun x => ¬ x = 0)) r (mx_G r (t_Mo_resolves zz)) 124 ls st h c n := mx_G_eq (tm_Mo_resolves zz) r 124 ls st h c n
theorem st_Mo_resolves_127 (zz : Nat × Nat) (r : mx_T) (ls : mx_L) (st : List Value) (h : mx_H) (c n : Nat) : mx_G r (t_Mo_resolves zz) 127 ls st h c n = (o_aload 1 0) r (mx_G r (t_Mo_resolves zz)) 127 ls st h c n := mx_G_eq (tm_Mo_resolves zz) r 127 ls st h c n
theorem st_Mo_resolves_128 (zz : Nat × Nat) (r : mx_T) (ls : mx_L) (st : List Value) (h : mx_H) (c n : Nat) : mx_G r (t_Mo_resolves zz) 128 ls st h c n = (o_get 10 22) r (mx_G r (t_Mo_resolves zz)) 128 ls st h c n := mx_G_eq (tm_Mo_resolves zz) r 128 ls st h c n
theorem st_Mo_resolves_131 (zz : Nat × Nat) (r : mx_T) (ls : mx_L) (st : List Value) (h : mx_H) (c n : Nat) : mx_G r (t_Mo_resolves zz) 131 ls st h c n = (o_iload 2 6) r (mx_G r (t_Mo_resolves zz)) 131 ls st h c n := mx_G_eq (tm_Mo_resolves zz) r 131 ls st h c n
theorem st_Mo_resolves_133 (zz : Nat × Nat) (r : mx_T) (ls : mx_L) (st : List Value) (h : mx_H) (c n : Nat) : mx_G r (t_Mo_resolves zz) 133 ls st h c n = (o_iald .int) r (mx_G r (t_Mo_resolves zz)) 133 ls st h c n := mx_G_eq (tm_Mo_resolves zz) r 133 ls st h c n
theorem st_Mo_resolves_134 (zz : Nat × Nat) (r : mx_T) (ls : mx_L) (st : List Value) (h : mx_H) (c n : Nat) : mx_G r (t_Mo_resolves zz) 134 ls st h c n = (o_aload 1 0) r (mx_G r (t_Mo_resolves zz)) 134 ls st h c n := mx_G_eq (tm_Mo_resolves zz) r 134 ls st h c n
theorem st_Mo_resolves_135 (zz : Nat × Nat) (r : mx_T) (ls : mx_L) (st : List Value) (h : mx_H) (c n : Nat) : mx_G r (t_Mo_resolves zz) 135 ls st h c n = (o_get 10 18) r (mx_G r (t_Mo_resolves zz)) 135 ls st h c n := mx_G_eq (tm_Mo_resolves zz) r 135 ls st h c n
theorem st_Mo_resolves_138 (zz : Nat × Nat) (r : mx_T) (ls : mx_L) (st : List Value) (h : mx_H) (c n : Nat) : mx_G r (t_Mo_resolves zz) 138 ls st h c n = (o_iload 2 4) r (mx_G r (t_Mo_resolves zz)) 138 ls st h c n := mx_G_eq (tm_Mo_resolves zz) r 138 ls st h c n
theorem st_Mo_resolves_140 (zz : Nat × Nat) (r : mx_T) (ls : mx_L) (st : List Value) (h : mx_H) (c n : Nat) : mx_G r (t_Mo_resolves zz) 140 ls st h c n = (o_iald .int) r (mx_G r (t_Mo_resolves zz)) 140 ls st h c n := mx_G_eq (tm_Mo_resolves zz) r 140 ls st h c n
theorem st_Mo_resolves_141 (zz : Nat × Nat) (r : mx_T) (ls : mx_L) (st : List Value) (h : mx_H) (c n : Nat) : mx_G r (t_Mo_resolves zz) 141 ls st h c n = (o_icmp 148 (fun x y => ¬ x = y)) r (mx_G r (t_Mo_resolves zz)) 141 ls st h c n := mx_G_eq (tm_Mo_resolves zz) r 141 ls st h c n
theorem st_Mo_resolves_144 (zz : Nat × Nat) (r : mx_T) (ls : mx_L) (st : List Value) (h : mx_H) (c n : Nat) : mx_G r (t_Mo_resolves zz) 144 ls st h c n = (o_push 1 (.int 1)) r (mx_G r (t_Mo_resolves zz)) 144 ls st h c n := mx_G_eq (tm_Mo_resolves zz) r 144 ls st h c n
theorem st_Mo_resolves_145 (zz : Nat × Nat) (r : mx_T) (ls : mx_L) (st : List Value) (h : mx_H) (c n : Nat) : mx_G r (t_Mo_resolves zz) 145 ls st h c n = (o_goto 149) r (mx_G r (t_Mo_resolves zz)) 145 ls st h c n := mx_G_eq (tm_Mo_resolves zz) r 145 ls st h c n
theorem st_Mo_resolves_148 (zz : Nat × Nat) (r : mx_T) (ls : mx_L) (st : List Value) (h : mx_H) (c n : Nat) : mx_G r (t_Mo_resolves zz) 148 ls st h c n = (o_push 1 (.int 0)) r (mx_G r (t_Mo_resolves zz)) 148 ls st h c n := mx_G_eq (tm_Mo_resolves zz) r 148 ls st h c n
theorem st_Mo_resolves_149 (zz : Nat × Nat) (r : mx_T) (ls : mx_L) (st : List Value) (h : mx_H) (c n : Nat) : mx_G r (t_Mo_resolves zz) 149 ls st h c n = (o_istore 2 5) r (mx_G r (t_Mo_resolves zz)) 149 ls st h c n := mx_G_eq (tm_Mo_resolves zz) r 149 ls st h c n
theorem st_Mo_resolves_151 (zz : Nat × Nat) (r : mx_T) (ls : mx_L) (st : List Value) (h : mx_H) (c n : Nat) : mx_G r (t_Mo_resolves zz) 151 ls st h c n = (o_iinc 6 1) r (mx_G r (t_Mo_resolves zz)) 151 ls st h c n := mx_G_eq (tm_Mo_resolves zz) r 151 ls st h c n
theorem st_Mo_resolves_154 (zz : Nat × Nat) (r : mx_T) (ls : mx_L) (st : List Value) (h : mx_H) (c n : Nat) : mx_G r (t_Mo_resolves zz) 154 ls st h c n = (o_goto 96) r (mx_G r (t_Mo_resolves zz)) 154 ls st h c n := mx_G_eq (tm_Mo_resolves zz) r 154 ls st h c n
set_option maxRecDepth 20000 in
theorem st_Mo_resolves_157 (zz : Nat × Nat) (r : mx_T) (ls : mx_L) (st : List Value) (h : mx_H) (c n : Nat) : mx_G r (t_Mo_resolves zz) 157 ls st h c n = (o_iload 1 3) r (mx_G r (t_Mo_resolves zz)) 157 ls st h c n := mx_G_eq (tm_Mo_resolves zz) r 157 ls st h c n
set_option maxRecDepth 20000 in
theorem st_Mo_resolves_158 (zz : Nat × Nat) (r : mx_T) (ls : mx_L) (st : List Value) (h : mx_H) (c n : Nat) : mx_G r (t_Mo_resolves zz) 158 ls st h c n = (o_if 170 (fun x => x = 0)) r (mx_G r (t_Mo_resolves zz)) 158 ls st h c n := mx_G_eq (tm_Mo_resolves zz) r 158 ls st h c n
set_option maxRecDepth 20000 in
theorem st_Mo_resolves_161 (zz : Nat × Nat) (r : mx_T) (ls : mx_L) (st : List Value) (h : mx_H) (c n : Nat) : mx_G r (t_Mo_resolves zz) 161 ls st h c n = (o_iload 2 5) r (mx_G r (t_Mo_resolves zz)) 161 ls st h c n := mx_G_eq (tm_Mo_resolves zz) r 161 ls st h c n
set_option maxRecDepth 20000 in
theorem st_Mo_resolves_163 (zz : Nat × Nat) (r : mx_T) (ls : mx_L) (st : List Value) (h : mx_H) (c n : Nat) : mx_G r (t_Mo_resolves zz) 163 ls st h c n = (o_if 170 (fun x => x = 0)) r (mx_G r (t_Mo_resolves zz)) 163 ls st h c n := mx_G_eq (tm_Mo_resolves zz) r 163 ls st h c n
set_option maxRecDepth 20000 in
theorem st_Mo_resolves_166 (zz : Nat × Nat) (r : mx_T) (ls : mx_L) (st : List Value) (h : mx_H) (c n : Nat) : mx_G r (t_Mo_resolves zz) 166 ls st h c n = (o_push 1 (.int 1)) r (mx_G r (t_Mo_resolves zz)) 166 ls st h c n := mx_G_eq (tm_Mo_resolves zz) r 166 ls st h c n
set_option maxRecDepth 20000 in
theorem st_Mo_resolves_167 (zz : Nat × Nat) (r : mx_T) (ls : mx_L) (st : List Value) (h : mx_H) (c n : Nat) : mx_G r (t_Mo_resolves zz) 167 ls st h c n = (o_goto 171) r (mx_G r (t_Mo_resolves zz)) 167 ls st h c n := mx_G_eq (tm_Mo_resolves zz) r 167 ls st h c n
set_option maxRecDepth 20000 in
theorem st_Mo_resolves_170 (zz : Nat × Nat) (r : mx_T) (ls : mx_L) (st : List Value) (h : mx_H) (c n : Nat) : mx_G r (t_Mo_resolves zz) 170 ls st h c n = (o_push 1 (.int 0)) r (mx_G r (t_Mo_resolves zz)) 170 ls st h c n := mx_G_eq (tm_Mo_resolves zz) r 170 ls st h c n
set_option maxRecDepth 20000 in
theorem st_Mo_resolves_171 (zz : Nat × Nat) (r : mx_T) (ls : mx_L) (st : List Value) (h : mx_H) (c n : Nat) : mx_G r (t_Mo_resolves zz) 171 ls st h c n = (o_istore 1 3) r (mx_G r (t_Mo_resolves zz)) 171 ls st h c n := mx_G_eq (tm_Mo_resolves zz) r 171 ls st h c n
set_option maxRecDepth 20000 in
theorem st_Mo_resolves_172 (zz : Nat × Nat) (r : mx_T) (ls : mx_L) (st : List Value) (h : mx_H) (c n : Nat) : mx_G r (t_Mo_resolves zz) 172 ls st h c n = (o_iinc 4 1) r (mx_G r (t_Mo_resolves zz)) 172 ls st h c n := mx_G_eq (tm_Mo_resolves zz) r 172 ls st h c n
set_option maxRecDepth 20000 in
theorem st_Mo_resolves_175 (zz : Nat × Nat) (r : mx_T) (ls : mx_L) (st : List Value) (h : mx_H) (c n : Nat) : mx_G r (t_Mo_resolves zz) 175 ls st h c n = (o_goto 62) r (mx_G r (t_Mo_resolves zz)) 175 ls st h c n := mx_G_eq (tm_Mo_resolves zz) r 175 ls st h c n
set_option maxRecDepth 20000 in
theorem st_Mo_resolves_178 (zz : Nat × Nat) (r : mx_T) (ls : mx_L) (st : List Value) (h : mx_H) (c n : Nat) : mx_G r (t_Mo_resolves zz) 178 ls st h c n = (o_iload 1 3) r (mx_G r (t_Mo_resolves zz)) 178 ls st h c n := mx_G_eq (tm_Mo_resolves zz) r 178 ls st h c n
set_option maxRecDepth 20000 in
theorem st_Mo_resolves_179 (zz : Nat × Nat) (r : mx_T) (ls : mx_L) (st : List Value) (h : mx_H) (c n : Nat) : mx_G r (t_Mo_resolves zz) 179 ls st h c n = (o_zret) r (mx_G r (t_Mo_resolves zz)) 179 ls st h c n := mx_G_eq (tm_Mo_resolves zz) r 179 ls st h c n
theorem d_Mo_start_0 : decode c_Mo_start 0 = .ok (.aload_n 0, 1) := by decide +kernel
theorem d_Mo_start_1 : decode c_Mo_start 1 = .ok (.getfield 87, 3) := by decide +kernel
theorem d_Mo_start_4 : decode c_Mo_start 4 = .ok (.ifCond .ne 21, 3) := by decide +kernel
theorem d_Mo_start_7 : decode c_Mo_start 7 = .ok (.iload_n 1, 1) := by decide +kernel
theorem d_Mo_start_8 : decode c_Mo_start 8 = .ok (.iconst 0, 1) := by decide +kernel
theorem d_Mo_start_9 : decode c_Mo_start 9 = .ok (.iconst 2, 1) := by decide +kernel
theorem d_Mo_start_10 : decode c_Mo_start 10 = .ok (.invokestatic 91, 3) := by decide +kernel
theorem d_Mo_start_13 : decode c_Mo_start 13 = .ok (.ifCond .eq 12, 3) := by decide +kernel
theorem d_Mo_start_16 : decode c_Mo_start 16 = .ok (.aload_n 0, 1) := by decide +kernel
theorem d_Mo_start_17 : decode c_Mo_start 17 = .ok (.getfield 59, 3) := by decide +kernel
theorem d_Mo_start_20 : decode c_Mo_start 20 = .ok (.iload_n 1, 1) := by decide +kernel
theorem d_Mo_start_21 : decode c_Mo_start 21 = .ok (.iaload, 1) := by decide +kernel
theorem d_Mo_start_22 : decode c_Mo_start 22 = .ok (.ifCond .ne 5, 3) := by decide +kernel
theorem d_Mo_start_25 : decode c_Mo_start 25 = .ok (.iconst 0, 1) := by decide +kernel
theorem d_Mo_start_26 : decode c_Mo_start 26 = .ok (.ireturn, 1) := by decide +kernel
theorem d_Mo_start_27 : decode c_Mo_start 27 = .ok (.iconst 0, 1) := by decide +kernel
theorem d_Mo_start_28 : decode c_Mo_start 28 = .ok (.istore_n 2, 1) := by decide +kernel
theorem d_Mo_start_29 : decode c_Mo_start 29 = .ok (.iload_n 2, 1) := by decide +kernel
theorem d_Mo_start_30 : decode c_Mo_start 30 = .ok (.aload_n 0, 1) := by decide +kernel
theorem d_Mo_start_31 : decode c_Mo_start 31 = .ok (.getfield 84, 3) := by decide +kernel
theorem d_Mo_start_34 : decode c_Mo_start 34 = .ok (.if_icmp .ge 19, 3) := by decide +kernel
theorem d_Mo_start_37 : decode c_Mo_start 37 = .ok (.aload_n 0, 1) := by decide +kernel
theorem d_Mo_start_38 : decode c_Mo_start 38 = .ok (.iload_n 2, 1) := by decide +kernel
theorem d_Mo_start_39 : decode c_Mo_start 39 = .ok (.invokevirtual 121, 3) := by decide +kernel
theorem d_Mo_start_42 : decode c_Mo_start 42 = .ok (.ifCond .ne 5, 3) := by decide +kernel
theorem d_Mo_start_45 : decode c_Mo_start 45 = .ok (.iconst 0, 1) := by decide +kernel
theorem d_Mo_start_46 : decode c_Mo_start 46 = .ok (.ireturn, 1) := by decide +kernel
theorem d_Mo_start_47 : decode c_Mo_start 47 = .ok (.iinc 2 1, 3) := by decide +kernel
theorem d_Mo_start_50 : decode c_Mo_start 50 = .ok (.goto (-21), 3) := by decide +kernel
theorem d_Mo_start_53 : decode c_Mo_start 53 = .ok (.aload_n 0, 1) := by decide +kernel
theorem d_Mo_start_54 : decode c_Mo_start 54 = .ok (.iconst 1, 1) := by decide +kernel
theorem d_Mo_start_55 : decode c_Mo_start 55 = .ok (.putfield 87, 3) := by decide +kernel
theorem d_Mo_start_58 : decode c_Mo_start 58 = .ok (.aload_n 0, 1) := by decide +kernel
theorem d_Mo_start_59 : decode c_Mo_start 59 = .ok (.iload_n 1, 1) := by decide +kernel
theorem d_Mo_start_60 : decode c_Mo_start 60 = .ok (.putfield 124, 3) := by decide +kernel
theorem d_Mo_start_63 : decode c_Mo_start 63 = .ok (.aload_n 0, 1) := by decide +kernel
theorem d_Mo_start_64 : decode c_Mo_start 64 = .ok (.iconst 0, 1) := by decide +kernel
theorem d_Mo_start_65 : decode c_Mo_start 65 = .ok (.putfield 127, 3) := by decide +kernel
theorem d_Mo_start_68 : decode c_Mo_start 68 = .ok (.iconst 1, 1) := by decide +kernel
theorem d_Mo_start_69 : decode c_Mo_start 69 = .ok (.ireturn, 1) := by decide +kernel
def t_Mo_start (zz : Nat × Nat) : List (Nat × mx_O) := [(0, o_aload 1 0),
  (1, o_get 10 24),
  (4, o_if 25 (fun x => ¬ x = 0)),
  (7, o_iload 1 1),
  (8, o_push 1 (.int 0)),
  (9, o_push 1 (.int 2)),
  (10, o_call 0 0 3 0 0 (fun _ _ => True) (S_Mo_within zz)),
  (13, o_if 25 (fun x => x = 0)),
  (16, o_aload 1 0),
  (17, o_get 10 20),
  (20, o_iload 1 1),
  (21, o_iald .int),
  (22, o_if 27 (fun x => ¬ x = 0)),
  (25, o_push 1 (.int 0)),
  (26, o_zret),
  (27, o_push 1 (.int 0)),
  (28, o_istore 1 2),
  (29, o_iload 1 2),
  (30, o_aload 1 0),
  (31, o_get 10 16),
  (34, o_icmp 53 (fun x y => y ≤ x)),
  (37, o_aload 1 0),
  (38, o_iload 1 2),
  (39, o_call 0 0 2 0 0 (mx_rv 10) (S_Mo_resolves zz)),
  (42, o_if 47 (fun x => ¬ x = 0)),
  (45, o_push 1 (.int 0)),
  (46, o_zret),
  (47, o_iinc 2 1),
  (50, o_goto 29),
  (53, o_aload 1 0),
  (54, o_push 1 (.int 1)),
  (55, o_put 10 24 mx_vZ),
  (58, o_aload 1 0),
  (59, o_iload 1 1),
  (60, o_put 10 26 mx_vI),
  (63, o_aload 1 0),
  (64, o_push 1 (.int 0)),
  (65, o_put 10 27 mx_vI),
  (68, o_push 1 (.int 1)),
  (69, o_zret)]
set_option maxRecDepth 100000 in
theorem tm_Mo_start (zz : Nat × Nat) : mx_All (fun _ o => mx_Mono o) (t_Mo_start zz) := by
  refine mx_all_cons (mo_st) ?_
  refine mx_all_cons (mo_st) ?_
  refine mx_all_cons (mo_br) ?_
  refine mx_all_cons (mo_st) ?_
  refine mx_all_cons (mo_st) ?_
  refine mx_all_cons (mo_st) ?_
  refine mx_all_cons (mo_call (sm_Mo_within zz)) ?_
  refine mx_all_cons (mo_br) ?_
  refine mx_all_cons (mo_st) ?_
  refine mx_all_cons (mo_st) ?_
  refine mx_all_cons (mo_st) ?_
  refine mx_all_cons (mo_sc) ?_
  refine mx_all_cons (mo_br) ?_
  refine mx_all_cons (mo_st) ?_
  refine mx_all_cons (mo_zret) ?_
  refine mx_all_cons (mo_st) ?_
  refine mx_all_cons (mo_st) ?_
  refine mx_all_cons (mo_st) ?_
  refine mx_all_cons (mo_st) ?_
  refine mx_all_cons (mo_st) ?_
  refine mx_all_cons (mo_br) ?_
  refine mx_all_cons (mo_st) ?_
  refine mx_all_cons (mo_st) ?_
  refine mx_all_cons (mo_call (sm_Mo_resolves zz)) ?_
  refine mx_all_cons (mo_br) ?_
  refine mx_all_cons (mo_st) ?_
  refine mx_all_cons (mo_zret) ?_
  refine mx_all_cons (mo_st) ?_
  refine mx_all_cons (mo_st) ?_
  refine mx_all_cons (mo_st) ?_
  refine mx_all_cons (mo_st) ?_
  refine mx_all_cons (mo_sc) ?_
  refine mx_all_cons (mo_st) ?_
  refine mx_all_cons (mo_st) ?_
  refine mx_all_cons (mo_sc) ?_
  refine mx_all_cons (mo_st) ?_
  refine mx_all_cons (mo_st) ?_
  refine mx_all_cons (mo_sc) ?_
  refine mx_all_cons (mo_st) ?_
  refine mx_all_cons (mo_zret) ?_
  exact mx_all_nil
def S_Mo_start (zz : Nat × Nat) : mx_Sp := mx_S 3 0 0 (t_Mo_start zz)
theorem sm_Mo_start (zz : Nat × Nat) : mx_SMono (S_Mo_start zz) := mx_S_mono (tm_Mo_start zz)
abbrev rm_Mo_start : Room := { frames := 1, cells := 0, slots := 0, locals := 26 }
set_option maxHeartbeats 4000000 in
set_option maxRecDepth 100000 in
theorem m_Mo_start (l : Launch) (zz : Nat × Nat) : mx_Met l y_Mo_start (wsOf y_Mo_start c_Mo_start 3 (some .boolean)) rm_Mo_start wcl (mx_Z zz) 0 0 (S_Mo_start zz) := by
  refine mx_met (cc := c_Mo_start) (ret := (some .boolean)) (by decide) rfl ?_
  intro p e s m args below meth c D A Post X hz hr hlk hnm
  have hm : ∀ w ∈ mw, w.before args s = true := fun w h => X.1.2.2.2.2 w (List.mem_cons_of_mem _ h)
  refine mx_all_cons (ok_aload (fun hl kk => lv_aload_n X.1.1 X.1.2.1 d_Mo_start_0 rfl hl kk) (fun hl kk => lv_aload_nN X.1.1 X.1.2.1 d_Mo_start_0 rfl hl kk)) ?_
  refine mx_all_cons (ok_get (C := "HeaderScheduleModel") (T := T_Mo) (N := 40) X (mw_up in_Mo) rfl 24 (by decide) (hm _ w701) (fun _ h9 => h9) d_Mo_start_1) ?_
  refine mx_all_cons (ok_if (fun kt kf => lv_if_ne X.1.1 X.1.2.1 d_Mo_start_4 (by decide) kt (fun z => kf (fun g => g z)))) ?_
  refine mx_all_cons (ok_iload (fun hl kk => lv_iload_n X.1.1 X.1.2.1 d_Mo_start_7 rfl hl kk)) ?_
  refine mx_all_cons (ok_push (fun kk => lv_iconst X.1.1 X.1.2.1 d_Mo_start_8 (by decide) kk)) ?_
  refine mx_all_cons (ok_push (fun kk => lv_iconst X.1.1 X.1.2.1 d_Mo_start_9 (by decide) kk)) ?_
  refine mx_all_cons (ok_callS X (mx_Zok_Z zz) hz ⟨(Nat.le_of_ble_eq_true rfl), (Nat.le_of_ble_eq_true rfl)⟩ (m_Mo_within l zz) ⟨mx_cwB 3 hm w804 w802 w40 rfl rfl (by decide +kernel) ⟨(Nat.le_of_ble_eq_true rfl), (Nat.le_of_ble_eq_true rfl)⟩, (hm _ w803)⟩ d_Mo_start_10) ?_
  refine mx_all_cons (ok_if (fun kt kf => lv_if_eq X.1.1 X.1.2.1 d_Mo_start_13 (by decide) kt kf)) ?_
  refine mx_all_cons (ok_aload (fun hl kk => lv_aload_n X.1.1 X.1.2.1 d_Mo_start_16 rfl hl kk) (fun hl kk => lv_aload_nN X.1.1 X.1.2.1 d_Mo_start_16 rfl hl kk)) ?_
  refine mx_all_cons (ok_get (C := "HeaderScheduleModel") (T := T_Mo) (N := 40) X (mw_up in_Mo) rfl 20 (by decide) (hm _ w697) (fun _ h9 => h9) d_Mo_start_17) ?_
  refine mx_all_cons (ok_iload (fun hl kk => lv_iload_n X.1.1 X.1.2.1 d_Mo_start_20 rfl hl kk)) ?_
  refine mx_all_cons (ok_iald X d_Mo_start_21) ?_
  refine mx_all_cons (ok_if (fun kt kf => lv_if_ne X.1.1 X.1.2.1 d_Mo_start_22 (by decide) kt (fun z => kf (fun g => g z)))) ?_
  refine mx_all_cons (ok_push (fun kk => lv_iconst X.1.1 X.1.2.1 d_Mo_start_25 (by decide) kk)) ?_
  refine mx_all_cons (ok_zret X hr hlk d_Mo_start_26) ?_
  refine mx_all_cons (ok_push (fun kk => lv_iconst X.1.1 X.1.2.1 d_Mo_start_27 (by decide) kk)) ?_
  refine mx_all_cons (ok_istore (fun hl kk => lv_istore_n X.1.1 X.1.2.1 d_Mo_start_28 rfl hl (by decide) rfl kk)) ?_
  refine mx_all_cons (ok_iload (fun hl kk => lv_iload_n X.1.1 X.1.2.1 d_Mo_start_29 rfl hl kk)) ?_
  refine mx_all_cons (ok_aload (fun hl kk => lv_aload_n X.1.1 X.1.2.1 d_Mo_start_30 rfl hl kk) (fun hl kk => lv_aload_nN X.1.1 X.1.2.1 d_Mo_start_30 rfl hl kk)) ?_
  refine mx_all_cons (ok_get (C := "HeaderScheduleModel") (T := T_Mo) (N := 40) X (mw_up in_Mo) rfl 16 (by decide) (hm _ w693) (fun _ h9 => h9) d_Mo_start_31) ?_
  refine mx_all_cons (ok_icmp (fun kt kf => lv_icmp_ge X.1.1 X.1.2.1 d_Mo_start_34 (by decide) kt kf)) ?_
  refine mx_all_cons (ok_aload (fun hl kk => lv_aload_n X.1.1 X.1.2.1 d_Mo_start_37 rfl hl kk) (fun hl kk => lv_aload_nN X.1.1 X.1.2.1 d_Mo_start_37 rfl hl kk)) ?_
  refine mx_all_cons (ok_iload (fun hl kk => lv_iload_n X.1.1 X.1.2.1 d_Mo_start_38 rfl hl kk)) ?_
  refine mx_all_cons (ok_callV (C := "HeaderScheduleModel") (T := T_Mo) (N := 40) X (mx_Zok_Z zz) hz ⟨(Nat.le_of_ble_eq_true rfl), (Nat.le_of_ble_eq_true rfl)⟩ (m_Mo_resolves l zz) ⟨mx_cwB 1 hm w852 w849 w40 rfl rfl (by decide +kernel) ⟨(Nat.le_of_ble_eq_true rfl), (Nat.le_of_ble_eq_true rfl)⟩, (hm _ w851), hm _ w22⟩ rfl d_Mo_start_39) ?_
  refine mx_all_cons (ok_if (fun kt kf => lv_if_ne X.1.1 X.1.2.1 d_Mo_start_42 (by decide) kt (fun z => kf (fun g => g z)))) ?_
  refine mx_all_cons (ok_push (fun kk => lv_iconst X.1.1 X.1.2.1 d_Mo_start_45 (by decide) kk)) ?_
  refine mx_all_cons (ok_zret X hr hlk d_Mo_start_46) ?_
  refine mx_all_cons (ok_iinc X (by decide) (by decide) d_Mo_start_47) ?_
  refine mx_all_cons (ok_goto X d_Mo_start_50 (by decide)) ?_
  refine mx_all_cons (ok_aload (fun hl kk => lv_aload_n X.1.1 X.1.2.1 d_Mo_start_53 rfl hl kk) (fun hl kk => lv_aload_nN X.1.1 X.1.2.1 d_Mo_start_53 rfl hl kk)) ?_
  refine mx_all_cons (ok_push (fun kk => lv_iconst X.1.1 X.1.2.1 d_Mo_start_54 (by decide) kk)) ?_
  refine mx_all_cons (ok_put (C := "HeaderScheduleModel") (T := T_Mo) (N := 40) X (mw_up in_Mo) ty_Mo tyok_Mo nm_Mo rfl 24 (by decide) (hm _ w701) (fun _ h9 => h9) rfl (tyok_Mo 24 (by decide)) mx_vZ_ok d_Mo_start_55) ?_
  refine mx_all_cons (ok_aload (fun hl kk => lv_aload_n X.1.1 X.1.2.1 d_Mo_start_58 rfl hl kk) (fun hl kk => lv_aload_nN X.1.1 X.1.2.1 d_Mo_start_58 rfl hl kk)) ?_
  refine mx_all_cons (ok_iload (fun hl kk => lv_iload_n X.1.1 X.1.2.1 d_Mo_start_59 rfl hl kk)) ?_
  refine mx_all_cons (ok_put (C := "HeaderScheduleModel") (T := T_Mo) (N := 40) X (mw_up in_Mo) ty_Mo tyok_Mo nm_Mo rfl 26 (by decide) (hm _ w703) (fun _ h9 => h9) rfl (tyok_Mo 26 (by decide)) mx_vI_ok d_Mo_start_60) ?_
  refine mx_all_cons (ok_aload (fun hl kk => lv_aload_n X.1.1 X.1.2.1 d_Mo_start_63 rfl hl kk) (fun hl kk => lv_aload_nN X.1.1 X.1.2.1 d_Mo_start_63 rfl hl kk)) ?_
  refine mx_all_cons (ok_push (fun kk => lv_iconst X.1.1 X.1.2.1 d_Mo_start_64 (by decide) kk)) ?_
  refine mx_all_cons (ok_put (C := "HeaderScheduleModel") (T := T_Mo) (N := 40) X (mw_up in_Mo) ty_Mo tyok_Mo nm_Mo rfl 27 (by decide) (hm _ w704) (fun _ h9 => h9) rfl (tyok_Mo 27 (by decide)) mx_vI_ok d_Mo_start_65) ?_
  refine mx_all_cons (ok_push (fun kk => lv_iconst X.1.1 X.1.2.1 d_Mo_start_68 (by decide) kk)) ?_
  refine mx_all_cons (ok_zret X hr hlk d_Mo_start_69) ?_
  exact mx_all_nil
theorem st_Mo_start_0 (zz : Nat × Nat) (r : mx_T) (ls : mx_L) (st : List Value) (h : mx_H) (c n : Nat) : mx_G r (t_Mo_start zz) 0 ls st h c n = (o_aload 1 0) r (mx_G r (t_Mo_start zz)) 0 ls st h c n := mx_G_eq (tm_Mo_start zz) r 0 ls st h c n
theorem st_Mo_start_1 (zz : Nat × Nat) (r : mx_T) (ls : mx_L) (st : List Value) (h : mx_H) (c n : Nat) : mx_G r (t_Mo_start zz) 1 ls st h c n = (o_get 10 24) r (mx_G r (t_Mo_start zz)) 1 ls st h c n := mx_G_eq (tm_Mo_start zz) r 1 ls st h c n
theorem st_Mo_start_4 (zz : Nat × Nat) (r : mx_T) (ls : mx_L) (st : List Value) (h : mx_H) (c n : Nat) : mx_G r (t_Mo_start zz) 4 ls st h c n = (o_if 25 (fun x => ¬ x = 0)) r (mx_G r (t_Mo_start zz)) 4 ls st h c n := mx_G_eq (tm_Mo_start zz) r 4 ls st h c n
theorem st_Mo_start_7 (zz : Nat × Nat) (r : mx_T) (ls : mx_L) (st : List Value) (h : mx_H) (c n : Nat) : mx_G r (t_Mo_start zz) 7 ls st h c n = (o_iload 1 1) r (mx_G r (t_Mo_start zz)) 7 ls st h c n := mx_G_eq (tm_Mo_start zz) r 7 ls st h c n
theorem st_Mo_start_8 (zz : Nat × Nat) (r : mx_T) (ls : mx_L) (st : List Value) (h : mx_H) (c n : Nat) : mx_G r (t_Mo_start zz) 8 ls st h c n = (o_push 1 (.int 0)) r (mx_G r (t_Mo_start zz)) 8 ls st h c n := mx_G_eq (tm_Mo_start zz) r 8 ls st h c n
theorem st_Mo_start_9 (zz : Nat × Nat) (r : mx_T) (ls : mx_L) (st : List Value) (h : mx_H) (c n : Nat) : mx_G r (t_Mo_start zz) 9 ls st h c n = (o_push 1 (.int 2)) r (mx_G r (t_Mo_start zz)) 9 ls st h c n := mx_G_eq (tm_Mo_start zz) r 9 ls st h c n
theorem st_Mo_start_10 (zz : Nat × Nat) (r : mx_T) (ls : mx_L) (st : List Value) (h : mx_H) (c n : Nat) : mx_G r (t_Mo_start zz) 10 ls st h c n = (o_call 0 0 3 0 0 (fun _ _ => True) (S_Mo_within zz)) r (mx_G r (t_Mo_start zz)) 10 ls st h c n := mx_G_eq (tm_Mo_start zz) r 10 ls st h c n
theorem st_Mo_start_13 (zz : Nat × Nat) (r : mx_T) (ls : mx_L) (st : List Value) (h : mx_H) (c n : Nat) : mx_G r (t_Mo_start zz) 13 ls st h c n = (o_if 25 (fun x => x = 0)) r (mx_G r (t_Mo_start zz)) 13 ls st h c n := mx_G_eq (tm_Mo_start zz) r 13 ls st h c n
theorem st_Mo_start_16 (zz : Nat × Nat) (r : mx_T) (ls : mx_L) (st : List Value) (h : mx_H) (c n : Nat) : mx_G r (t_Mo_start zz) 16 ls st h c n = (o_aload 1 0) r (mx_G r (t_Mo_start zz)) 16 ls st h c n := mx_G_eq (tm_Mo_start zz) r 16 ls st h c n
theorem st_Mo_start_17 (zz : Nat × Nat) (r : mx_T) (ls : mx_L) (st : List Value) (h : mx_H) (c n : Nat) : mx_G r (t_Mo_start zz) 17 ls st h c n = (o_get 10 20) r (mx_G r (t_Mo_start zz)) 17 ls st h c n := mx_G_eq (tm_Mo_start zz) r 17 ls st h c n
theorem st_Mo_start_20 (zz : Nat × Nat) (r : mx_T) (ls : mx_L) (st : List Value) (h : mx_H) (c n : Nat) : mx_G r (t_Mo_start zz) 20 ls st h c n = (o_iload 1 1) r (mx_G r (t_Mo_start zz)) 20 ls st h c n := mx_G_eq (tm_Mo_start zz) r 20 ls st h c n
theorem st_Mo_start_21 (zz : Nat × Nat) (r : mx_T) (ls : mx_L) (st : List Value) (h : mx_H) (c n : Nat) : mx_G r (t_Mo_start zz) 21 ls st h c n = (o_iald .int) r (mx_G r (t_Mo_start zz)) 21 ls st h c n := mx_G_eq (tm_Mo_start zz) r 21 ls st h c n
theorem st_Mo_start_22 (zz : Nat × Nat) (r : mx_T) (ls : mx_L) (st : List Value) (h : mx_H) (c n : Nat) : mx_G r (t_Mo_start zz) 22 ls st h c n = (o_if 27 (fun x => ¬ x = 0)) r (mx_G r (t_Mo_start zz)) 22 ls st h c n := mx_G_eq (tm_Mo_start zz) r 22 ls st h c n
theorem st_Mo_start_25 (zz : Nat × Nat) (r : mx_T) (ls : mx_L) (st : List Value) (h : mx_H) (c n : Nat) : mx_G r (t_Mo_start zz) 25 ls st h c n = (o_push 1 (.int 0)) r (mx_G r (t_Mo_start zz)) 25 ls st h c n := mx_G_eq (tm_Mo_start zz) r 25 ls st h c n
theorem st_Mo_start_26 (zz : Nat × Nat) (r : mx_T) (ls : mx_L) (st : List Value) (h : mx_H) (c n : Nat) : mx_G r (t_Mo_start zz) 26 ls st h c n = (o_zret) r (mx_G r (t_Mo_start zz)) 26 ls st h c n := mx_G_eq (tm_Mo_start zz) r 26 ls st h c n
theorem st_Mo_start_27 (zz : Nat × Nat) (r : mx_T) (ls : mx_L) (st : List Value) (h : mx_H) (c n : Nat) : mx_G r (t_Mo_start zz) 27 ls st h c n = (o_push 1 (.int 0)) r (mx_G r (t_Mo_start zz)) 27 ls st h c n := mx_G_eq (tm_Mo_start zz) r 27 ls st h c n
theorem st_Mo_start_28 (zz : Nat × Nat) (r : mx_T) (ls : mx_L) (st : List Value) (h : mx_H) (c n : Nat) : mx_G r (t_Mo_start zz) 28 ls st h c n = (o_istore 1 2) r (mx_G r (t_Mo_start zz)) 28 ls st h c n := mx_G_eq (tm_Mo_start zz) r 28 ls st h c n
theorem st_Mo_start_29 (zz : Nat × Nat) (r : mx_T) (ls : mx_L) (st : List Value) (h : mx_H) (c n : Nat) : mx_G r (t_Mo_start zz) 29 ls st h c n = (o_iload 1 2) r (mx_G r (t_Mo_start zz)) 29 ls st h c n := mx_G_eq (tm_Mo_start zz) r 29 ls st h c n
theorem st_Mo_start_30 (zz : Nat × Nat) (r : mx_T) (ls : mx_L) (st : List Value) (h : mx_H) (c n : Nat) : mx_G r (t_Mo_start zz) 30 ls st h c n = (o_aload 1 0) r (mx_G r (t_Mo_start zz)) 30 ls st h c n := mx_G_eq (tm_Mo_start zz) r 30 ls st h c n
theorem st_Mo_start_31 (zz : Nat × Nat) (r : mx_T) (ls : mx_L) (st : List Value) (h : mx_H) (c n : Nat) : mx_G r (t_Mo_start zz) 31 ls st h c n = (o_get 10 16) r (mx_G r (t_Mo_start zz)) 31 ls st h c n := mx_G_eq (tm_Mo_start zz) r 31 ls st h c n
theorem st_Mo_start_34 (zz : Nat × Nat) (r : mx_T) (ls : mx_L) (st : List Value) (h : mx_H) (c n : Nat) : mx_G r (t_Mo_start zz) 34 ls st h c n = (o_icmp 53 (fun x y => y ≤ x)) r (mx_G r (t_Mo_start zz)) 34 ls st h c n := mx_G_eq (tm_Mo_start zz) r 34 ls st h c n
theorem st_Mo_start_37 (zz : Nat × Nat) (r : mx_T) (ls : mx_L) (st : List Value) (h : mx_H) (c n : Nat) : mx_G r (t_Mo_start zz) 37 ls st h c n = (o_aload 1 0) r (mx_G r (t_Mo_start zz)) 37 ls st h c n := mx_G_eq (tm_Mo_start zz) r 37 ls st h c n
theorem st_Mo_start_38 (zz : Nat × Nat) (r : mx_T) (ls : mx_L) (st : List Value) (h : mx_H) (c n : Nat) : mx_G r (t_Mo_start zz) 38 ls st h c n = (o_iload 1 2) r (mx_G r (t_Mo_start zz)) 38 ls st h c n := mx_G_eq (tm_Mo_start zz) r 38 ls st h c n
theorem st_Mo_start_39 (zz : Nat × Nat) (r : mx_T) (ls : mx_L) (st : List Value) (h : mx_H) (c n : Nat) : mx_G r (t_Mo_start zz) 39 ls st h c n = (o_call 0 0 2 0 0 (mx_rv 10) (S_Mo_resolves zz)) r (mx_G r (t_Mo_start zz)) 39 ls st h c n := mx_G_eq (tm_Mo_start zz) r 39 ls st h c n
theorem st_Mo_start_42 (zz : Nat × Nat) (r : mx_T) (ls : mx_L) (st : List Value) (h : mx_H) (c n : Nat) : mx_G r (t_Mo_start zz) 42 ls st h c n = (o_if 47 (fun x => ¬ x = 0)) r (mx_G r (t_Mo_start zz)) 42 ls st h c n := mx_G_eq (tm_Mo_start zz) r 42 ls st h c n
theorem st_Mo_start_45 (zz : Nat × Nat) (r : mx_T) (ls : mx_L) (st : List Value) (h : mx_H) (c n : Nat) : mx_G r (t_Mo_start zz) 45 ls st h c n = (o_push 1 (.int 0)) r (mx_G r (t_Mo_start zz)) 45 ls st h c n := mx_G_eq (tm_Mo_start zz) r 45 ls st h c n
theorem st_Mo_start_46 (zz : Nat × Nat) (r : mx_T) (ls : mx_L) (st : List Value) (h : mx_H) (c n : Nat) : mx_G r (t_Mo_start zz) 46 ls st h c n = (o_zret) r (mx_G r (t_Mo_start zz)) 46 ls st h c n := mx_G_eq (tm_Mo_start zz) r 46 ls st h c n
theorem st_Mo_start_47 (zz : Nat × Nat) (r : mx_T) (ls : mx_L) (st : List Value) (h : mx_H) (c n : Nat) : mx_G r (t_Mo_start zz) 47 ls st h c n = (o_iinc 2 1) r (mx_G r (t_Mo_start zz)) 47 ls st h c n := mx_G_eq (tm_Mo_start zz) r 47 ls st h c n
theorem st_Mo_start_50 (zz : Nat × Nat) (r : mx_T) (ls : mx_L) (st : List Value) (h : mx_H) (c n : Nat) : mx_G r (t_Mo_start zz) 50 ls st h c n = (o_goto 29) r (mx_G r (t_Mo_start zz)) 50 ls st h c n := mx_G_eq (tm_Mo_start zz) r 50 ls st h c n
theorem st_Mo_start_53 (zz : Nat × Nat) (r : mx_T) (ls : mx_L) (st : List Value) (h : mx_H) (c n : Nat) : mx_G r (t_Mo_start zz) 53 ls st h c n = (o_aload 1 0) r (mx_G r (t_Mo_start zz)) 53 ls st h c n := mx_G_eq (tm_Mo_start zz) r 53 ls st h c n
theorem st_Mo_start_54 (zz : Nat × Nat) (r : mx_T) (ls : mx_L) (st : List Value) (h : mx_H) (c n : Nat) : mx_G r (t_Mo_start zz) 54 ls st h c n = (o_push 1 (.int 1)) r (mx_G r (t_Mo_start zz)) 54 ls st h c n := mx_G_eq (tm_Mo_start zz) r 54 ls st h c n
theorem st_Mo_start_55 (zz : Nat × Nat) (r : mx_T) (ls : mx_L) (st : List Value) (h : mx_H) (c n : Nat) : mx_G r (t_Mo_start zz) 55 ls st h c n = (o_put 10 24 mx_vZ) r (mx_G r (t_Mo_start zz)) 55 ls st h c n := mx_G_eq (tm_Mo_start zz) r 55 ls st h c n
theorem st_Mo_start_58 (zz : Nat × Nat) (r : mx_T) (ls : mx_L) (st : List Value) (h : mx_H) (c n : Nat) : mx_G r (t_Mo_start zz) 58 ls st h c n = (o_aload 1 0) r (mx_G r (t_Mo_start zz)) 58 ls st h c n := mx_G_eq (tm_Mo_start zz) r 58 ls st h c n
theorem st_Mo_start_59 (zz : Nat × Nat) (r : mx_T) (ls : mx_L) (st : List Value) (h : mx_H) (c n : Nat) : mx_G r (t_Mo_start zz) 59 ls st h c n = (o_iload 1 1) r (mx_G r (t_Mo_start zz)) 59 ls st h c n := mx_G_eq (tm_Mo_start zz) r 59 ls st h c n
theorem st_Mo_start_60 (zz : Nat × Nat) (r : mx_T) (ls : mx_L) (st : List Value) (h : mx_H) (c n : Nat) : mx_G r (t_Mo_start zz) 60 ls st h c n = (o_put 10 26 mx_vI) r (mx_G r (t_Mo_start zz)) 60 ls st h c n := mx_G_eq (tm_Mo_start zz) r 60 ls st h c n
theorem st_Mo_start_63 (zz : Nat × Nat) (r : mx_T) (ls : mx_L) (st : List Value) (h : mx_H) (c n : Nat) : mx_G r (t_Mo_start zz) 63 ls st h c n = (o_aload 1 0) r (mx_G r (t_Mo_start zz)) 63 ls st h c n := mx_G_eq (tm_Mo_start zz) r 63 ls st h c n
theorem st_Mo_start_64 (zz : Nat × Nat) (r : mx_T) (ls : mx_L) (st : List Value) (h : mx_H) (c n : Nat) : mx_G r (t_Mo_start zz) 64 ls st h c n = (o_push 1 (.int 0)) r (mx_G r (t_Mo_start zz)) 64 ls st h c n := mx_G_eq (tm_Mo_start zz) r 64 ls st h c n
theorem st_Mo_start_65 (zz : Nat × Nat) (r : mx_T) (ls : mx_L) (st : List Value) (h : mx_H) (c n : Nat) : mx_G r (t_Mo_start zz) 65 ls st h c n = (o_put 10 27 mx_vI) r (mx_G r (t_Mo_start zz)) 65 ls st h c n := mx_G_eq (tm_Mo_start zz) r 65 ls st h c n
theorem st_Mo_start_68 (zz : Nat × Nat) (r : mx_T) (ls : mx_L) (st : List Value) (h : mx_H) (c n : Nat) : mx_G r (t_Mo_start zz) 68 ls st h c n = (o_push 1 (.int 1)) r (mx_G r (t_Mo_start zz)) 68 ls st h c n := mx_G_eq (tm_Mo_start zz) r 68 ls st h c n
theorem st_Mo_start_69 (zz : Nat × Nat) (r : mx_T) (ls : mx_L) (st : List Value) (h : mx_H) (c n : Nat) : mx_G r (t_Mo_start zz) 69 ls st h c n = (o_zret) r (mx_G r (t_Mo_start zz)) 69 ls st h c n := mx_G_eq (tm_Mo_start zz) r 69 ls st h c n
