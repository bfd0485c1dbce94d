theorem d_Mo_taken_0 : decode c_Mo_taken 0 = .ok (.iconst 0, 1) := by decide +kernel
theorem d_Mo_taken_1 : decode c_Mo_taken 1 = .ok (.istore_n 2, 1) := by decide +kernel
theorem d_Mo_taken_2 : decode c_Mo_taken 2 = .ok (.iconst 0, 1) := by decide +kernel
theorem d_Mo_taken_3 : decode c_Mo_taken 3 = .ok (.istore_n 3, 1) := by decide +kernel
theorem d_Mo_taken_4 : decode c_Mo_taken 4 = .ok (.iload_n 3, 1) := by decide +kernel
theorem d_Mo_taken_5 : decode c_Mo_taken 5 = .ok (.aload_n 0, 1) := by decide +kernel
theorem d_Mo_taken_6 : decode c_Mo_taken 6 = .ok (.getfield 81, 3) := by decide +kernel
theorem d_Mo_taken_9 : decode c_Mo_taken 9 = .ok (.if_icmp .ge 29, 3) := by decide +kernel
theorem d_Mo_taken_12 : decode c_Mo_taken 12 = .ok (.iload_n 2, 1) := by decide +kernel
theorem d_Mo_taken_13 : decode c_Mo_taken 13 = .ok (.ifCond .ne 13, 3) := by decide +kernel
theorem d_Mo_taken_16 : decode c_Mo_taken 16 = .ok (.aload_n 0, 1) := by decide +kernel
theorem d_Mo_taken_17 : decode c_Mo_taken 17 = .ok (.getfield 7, 3) := by decide +kernel
theorem d_Mo_taken_20 : decode c_Mo_taken 20 = .ok (.iload_n 3, 1) := by decide +kernel
theorem d_Mo_taken_21 : decode c_Mo_taken 21 = .ok (.iaload, 1) := by decide +kernel
theorem d_Mo_taken_22 : decode c_Mo_taken 22 = .ok (.iload_n 1, 1) := by decide +kernel
theorem d_Mo_taken_23 : decode c_Mo_taken 23 = .ok (.if_icmp .ne 7, 3) := by decide +kernel
theorem d_Mo_taken_26 : decode c_Mo_taken 26 = .ok (.iconst 1, 1) := by decide +kernel
theorem d_Mo_taken_27 : decode c_Mo_taken 27 = .ok (.goto 4, 3) := by decide +kernel
theorem d_Mo_taken_30 : decode c_Mo_taken 30 = .ok (.iconst 0, 1) := by decide +kernel
theorem d_Mo_taken_31 : decode c_Mo_taken 31 = .ok (.istore_n 2, 1) := by decide +kernel
theorem d_Mo_taken_32 : decode c_Mo_taken 32 = .ok (.iinc 3 1, 3) := by decide +kernel
theorem d_Mo_taken_35 : decode c_Mo_taken 35 = .ok (.goto (-31), 3) := by decide +kernel
theorem d_Mo_taken_38 : decode c_Mo_taken 38 = .ok (.iconst 0, 1) := by decide +kernel
theorem d_Mo_taken_39 : decode c_Mo_taken 39 = .ok (.istore_n 3, 1) := by decide +kernel
theorem d_Mo_taken_40 : decode c_Mo_taken 40 = .ok (.iload_n 3, 1) := by decide +kernel
theorem d_Mo_taken_41 : decode c_Mo_taken 41 = .ok (.aload_n 0, 1) := by decide +kernel
theorem d_Mo_taken_42 : decode c_Mo_taken 42 = .ok (.getfield 84, 3) := by decide +kernel
theorem d_Mo_taken_45 : decode c_Mo_taken 45 = .ok (.if_icmp .ge 29, 3) := by decide +kernel
theorem d_Mo_taken_48 : decode c_Mo_taken 48 = .ok (.iload_n 2, 1) := by decide +kernel
theorem d_Mo_taken_49 : decode c_Mo_taken 49 = .ok (.ifCond .ne 13, 3) := by decide +kernel
theorem d_Mo_taken_52 : decode c_Mo_taken 52 = .ok (.aload_n 0, 1) := by decide +kernel
theorem d_Mo_taken_53 : decode c_Mo_taken 53 = .ok (.getfield 50, 3) := by decide +kernel
theorem d_Mo_taken_56 : decode c_Mo_taken 56 = .ok (.iload_n 3, 1) := by decide +kernel
theorem d_Mo_taken_57 : decode c_Mo_taken 57 = .ok (.iaload, 1) := by decide +kernel
theorem d_Mo_taken_58 : decode c_Mo_taken 58 = .ok (.iload_n 1, 1) := by decide +kernel
theorem d_Mo_taken_59 : decode c_Mo_taken 59 = .ok (.if_icmp .ne 7, 3) := by decide +kernel
theorem d_Mo_taken_62 : decode c_Mo_taken 62 = .ok (.iconst 1, 1) := by decide +kernel
theorem d_Mo_taken_63 : decode c_Mo_taken 63 = .ok (.goto 4, 3) := by decide +kernel
theorem d_Mo_taken_66 : decode c_Mo_taken 66 = .ok (.iconst 0, 1) := by decide +kernel
theorem d_Mo_taken_67 : decode c_Mo_taken 67 = .ok (.istore_n 2, 1) := by decide +kernel
theorem d_Mo_taken_68 : decode c_Mo_taken 68 = .ok (.iinc 3 1, 3) := by decide +kernel
theorem d_Mo_taken_71 : decode c_Mo_taken 71 = .ok (.goto (-31), 3) := by decide +kernel
theorem d_Mo_taken_74 : decode c_Mo_taken 74 = .ok (.iload_n 2, 1) := by decide +kernel
theorem d_Mo_taken_75 : decode c_Mo_taken 75 = .ok (.ireturn, 1) := by decide +kernel
def t_Mo_taken (zz : Nat × Nat) : List (Nat × mx_O) := [(0, o_push 1 (.int 0)),
  (1, o_istore 1 2),
  (2, o_push 1 (.int 0)),
  (3, o_istore 1 3),
  (4, o_iload 1 3),
  (5, o_aload 1 0),
  (6, o_get 10 0),
  (9, o_icmp 38 (fun x y => y ≤ x)),
  (12, o_iload 1 2),
  (13, o_if 26 (fun x => ¬ x = 0)),
  (16, o_aload 1 0),
  (17, o_get 10 1),
  (20, o_iload 1 3),
  (21, o_iald .int),
  (22, o_iload 1 1),
  (23, o_icmp 30 (fun x y => ¬ x = y)),
  (26, o_push 1 (.int 1)),
  (27, o_goto 31),
  (30, o_push 1 (.int 0)),
  (31, o_istore 1 2),
  (32, o_iinc 3 1),
  (35, o_goto 4),
  (38, o_push 1 (.int 0)),
  (39, o_istore 1 3),
  (40, o_iload 1 3),
  (41, o_aload 1 0),
  (42, o_get 10 16),
  (45, o_icmp 74 (fun x y => y ≤ x)),
  (48, o_iload 1 2),
  (49, o_if 62 (fun x => ¬ x = 0)),
  (52, o_aload 1 0),
  (53, o_get 10 17),
  (56, o_iload 1 3),
  (57, o_iald .int),
  (58, o_iload 1 1),
  (59, o_icmp 66 (fun x y => ¬ x = y)),
  (62, o_push 1 (.int 1)),
  (63, o_goto 67),
  (66, o_push 1 (.int 0)),
  (67, o_istore 1 2),
  (68, o_iinc 3 1),
  (71, o_goto 40),
  (74, o_iload 1 2),
  (75, o_zret)]
set_option maxRecDepth 100000 in
theorem tm_Mo_taken (zz : Nat × Nat) : mx_All (fun _ o => mx_Mono o) (t_Mo_taken zz) := by
  refine mx_all_cons (mo_st) ?_
  refine mx_all_cons (mo_st) ?_
  refine mx_all_cons (mo_st) ?_
  refine mx_all_cons (mo_st) ?_
  refine mx_all_cons (mo_st) ?_
  refine mx_all_cons (mo_st) ?_
  refine mx_all_cons (mo_st) ?_
  refine mx_all_cons (mo_br) ?_
  refine mx_all_cons (mo_st) ?_
  refine mx_all_cons (mo_br) ?_
  refine mx_all_cons (mo_st) ?_
  refine mx_all_cons (mo_st) ?_
  refine mx_all_cons (mo_st) ?_
  refine mx_all_cons (mo_sc) ?_
  refine mx_all_cons (mo_st) ?_
  refine mx_all_cons (mo_br) ?_
  refine mx_all_cons (mo_st) ?_
  refine mx_all_cons (mo_st) ?_
  refine mx_all_cons (mo_st) ?_
  refine mx_all_cons (mo_st) ?_
  refine mx_all_cons (mo_st) ?_
  refine mx_all_cons (mo_st) ?_
  refine mx_all_cons (mo_st) ?_
  refine mx_all_cons (mo_st) ?_
  refine mx_all_cons (mo_st) ?_
  refine mx_all_cons (mo_st) ?_
  refine mx_all_cons (mo_st) ?_
  refine mx_all_cons (mo_br) ?_
  refine mx_all_cons (mo_st) ?_
  refine mx_all_cons (mo_br) ?_
  refine mx_all_cons (mo_st) ?_
  refine mx_all_cons (mo_st) ?_
  refine mx_all_cons (mo_st) ?_
  refine mx_all_cons (mo_sc) ?_
  refine mx_all_cons (mo_st) ?_
  refine mx_all_cons (mo_br) ?_
  refine mx_all_cons (mo_st) ?_
  refine mx_all_cons (mo_st) ?_
  refine mx_all_cons (mo_st) ?_
  refine mx_all_cons (mo_st) ?_
  refine mx_all_cons (mo_st) ?_
  refine mx_all_cons (mo_st) ?_
  refine mx_all_cons (mo_st) ?_
  refine mx_all_cons (mo_zret) ?_
  exact mx_all_nil
def S_Mo_taken (zz : Nat × Nat) : mx_Sp := mx_S 4 0 0 (t_Mo_taken zz)
theorem sm_Mo_taken (zz : Nat × Nat) : mx_SMono (S_Mo_taken zz) := mx_S_mono (tm_Mo_taken zz)
abbrev rm_Mo_taken : Room := { frames := 0, cells := 0, slots := 0, locals := 0 }
set_option maxHeartbeats 4000000 in
set_option maxRecDepth 100000 in
theorem m_Mo_taken (l : Launch) (zz : Nat × Nat) : mx_Met l y_Mo_taken (wsOf y_Mo_taken c_Mo_taken 4 (some .boolean)) rm_Mo_taken wcl (mx_Z zz) 0 0 (S_Mo_taken zz) := by
  refine mx_met (cc := c_Mo_taken) (ret := (some .boolean)) (by decide) rfl ?_
  intro p e s m args below meth c D A Post X hz hr hlk hnm
  have hm : ∀ w ∈ mw, w.before args s = true := fun w h => X.1.2.2.2.2 w (List.mem_cons_of_mem _ h)
  refine mx_all_cons (ok_push (fun kk => lv_iconst X.1.1 X.1.2.1 d_Mo_taken_0 (by decide) kk)) ?_
  refine mx_all_cons (ok_istore (fun hl kk => lv_istore_n X.1.1 X.1.2.1 d_Mo_taken_1 rfl hl (by decide) rfl kk)) ?_
  refine mx_all_cons (ok_push (fun kk => lv_iconst X.1.1 X.1.2.1 d_Mo_taken_2 (by decide) kk)) ?_
  refine mx_all_cons (ok_istore (fun hl kk => lv_istore_n X.1.1 X.1.2.1 d_Mo_taken_3 rfl hl (by decide) rfl kk)) ?_
  refine mx_all_cons (ok_iload (fun hl kk => lv_iload_n X.1.1 X.1.2.1 d_Mo_taken_4 rfl hl kk)) ?_
  refine mx_all_cons (ok_aload (fun hl kk => lv_aload_n X.1.1 X.1.2.1 d_Mo_taken_5 rfl hl kk) (fun hl kk => lv_aload_nN X.1.1 X.1.2.1 d_Mo_taken_5 rfl hl kk)) ?_
  refine mx_all_cons (ok_get (C := "HeaderScheduleModel") (T := T_Mo) (N := 40) X (mw_up in_Mo) rfl 0 (by decide) (hm _ w677) (fun _ h9 => h9) d_Mo_taken_6) ?_
  refine mx_all_cons (ok_icmp (fun kt kf => lv_icmp_ge X.1.1 X.1.2.1 d_Mo_taken_9 (by decide) kt kf)) ?_
  refine mx_all_cons (ok_iload (fun hl kk => lv_iload_n X.1.1 X.1.2.1 d_Mo_taken_12 rfl hl kk)) ?_
  refine mx_all_cons (ok_if (fun kt kf => lv_if_ne X.1.1 X.1.2.1 d_Mo_taken_13 (by decide) kt (fun z => kf (fun g => g z)))) ?_
  refine mx_all_cons (ok_aload (fun hl kk => lv_aload_n X.1.1 X.1.2.1 d_Mo_taken_16 rfl hl kk) (fun hl kk => lv_aload_nN X.1.1 X.1.2.1 d_Mo_taken_16 rfl hl kk)) ?_
  refine mx_all_cons (ok_get (C := "HeaderScheduleModel") (T := T_Mo) (N := 40) X (mw_up in_Mo) rfl 1 (by decide) (hm _ w678) (fun _ h9 => h9) d_Mo_taken_17) ?_
  refine mx_all_cons (ok_iload (fun hl kk => lv_iload_n X.1.1 X.1.2.1 d_Mo_taken_20 rfl hl kk)) ?_
  refine mx_all_cons (ok_iald X d_Mo_taken_21) ?_
  refine mx_all_cons (ok_iload (fun hl kk => lv_iload_n X.1.1 X.1.2.1 d_Mo_taken_22 rfl hl kk)) ?_
  refine mx_all_cons (ok_icmp (fun kt kf => lv_icmp_ne X.1.1 X.1.2.1 d_Mo_taken_23 (by decide) kt (fun z => kf (fun g => g z)))) ?_
  refine mx_all_cons (ok_push (fun kk => lv_iconst X.1.1 X.1.2.1 d_Mo_taken_26 (by decide) kk)) ?_
  refine mx_all_cons (ok_goto X d_Mo_taken_27 (by decide)) ?_
  refine mx_all_cons (ok_push (fun kk => lv_iconst X.1.1 X.1.2.1 d_Mo_taken_30 (by decide) kk)) ?_
  refine mx_all_cons (ok_istore (fun hl kk => lv_istore_n X.1.1 X.1.2.1 d_Mo_taken_31 rfl hl (by decide) rfl kk)) ?_
  refine mx_all_cons (ok_iinc X (by decide) (by decide) d_Mo_taken_32) ?_
  refine mx_all_cons (ok_goto X d_Mo_taken_35 (by decide)) ?_
  refine mx_all_cons (ok_push (fun kk => lv_iconst X.1.1 X.1.2.1 d_Mo_taken_38 (by decide) kk)) ?_
  refine mx_all_cons (ok_istore (fun hl kk => lv_istore_n X.1.1 X.1.2.1 d_Mo_taken_39 rfl hl (by decide) rfl kk)) ?_
  refine mx_all_cons (ok_iload (fun hl kk => lv_iload_n X.1.1 X.1.2.1 d_Mo_taken_40 rfl hl kk)) ?_
  refine mx_all_cons (ok_aload (fun hl kk => lv_aload_n X.1.1 X.1.2.1 d_Mo_taken_41 rfl hl kk) (fun hl kk => lv_aload_nN X.1.1 X.1.2.1 d_Mo_taken_41 rfl hl kk)) ?_
  refine mx_all_cons (ok_get (C := "HeaderScheduleModel") (T := T_Mo) (N := 40) X (mw_up in_Mo) rfl 16 (by decide) (hm _ w693) (fun _ h9 => h9) d_Mo_taken_42) ?_
  refine mx_all_cons (ok_icmp (fun kt kf => lv_icmp_ge X.1.1 X.1.2.1 d_Mo_taken_45 (by decide) kt kf)) ?_
  refine mx_all_cons (ok_iload (fun hl kk => lv_iload_n X.1.1 X.1.2.1 d_Mo_taken_48 rfl hl kk)) ?_
  refine mx_all_cons (ok_if (fun kt kf => lv_if_ne X.1.1 X.1.2.1 d_Mo_taken_49 (by decide) kt (fun z => kf (fun g => g z)))) ?_
  refine mx_all_cons (ok_aload (fun hl kk => lv_aload_n X.1.1 X.1.2.1 d_Mo_taken_52 rfl hl kk) (fun hl kk => lv_aload_nN X.1.1 X.1.2.1 d_Mo_taken_52 rfl hl kk)) ?_
  refine mx_all_cons (ok_get (C := "HeaderScheduleModel") (T := T_Mo) (N := 40) X (mw_up in_Mo) rfl 17 (by decide) (hm _ w694) (fun _ h9 => h9) d_Mo_taken_53) ?_
  refine mx_all_cons (ok_iload (fun hl kk => lv_iload_n X.1.1 X.1.2.1 d_Mo_taken_56 rfl hl kk)) ?_
  refine mx_all_cons (ok_iald X d_Mo_taken_57) ?_
  refine mx_all_cons (ok_iload (fun hl kk => lv_iload_n X.1.1 X.1.2.1 d_Mo_taken_58 rfl hl kk)) ?_
  refine mx_all_cons (ok_icmp (fun kt kf => lv_icmp_ne X.1.1 X.1.2.1 d_Mo_taken_59 (by decide) kt (fun z => kf (fun g => g z)))) ?_
  refine mx_all_cons (ok_push (fun kk => lv_iconst X.1.1 X.1.2.1 d_Mo_taken_62 (by decide) kk)) ?_
  refine mx_all_cons (ok_goto X d_Mo_taken_63 (by decide)) ?_
  refine mx_all_cons (ok_push (fun kk => lv_iconst X.1.1 X.1.2.1 d_Mo_taken_66 (by decide) kk)) ?_
  refine mx_all_cons (ok_istore (fun hl kk => lv_istore_n X.1.1 X.1.2.1 d_Mo_taken_67 rfl hl (by decide) rfl kk)) ?_
  refine mx_all_cons (ok_iinc X (by decide) (by decide) d_Mo_taken_68) ?_
  refine mx_all_cons (ok_goto X d_Mo_taken_71 (by decide)) ?_
  refine mx_all_cons (ok_iload (fun hl kk => lv_iload_n X.1.1 X.1.2.1 d_Mo_taken_74 rfl hl kk)) ?_
  refine mx_all_cons (ok_zret X hr hlk d_Mo_taken_75) ?_
  exact mx_all_nil
theorem st_Mo_taken_0 (zz : Nat × Nat) (r : mx_T) (ls : mx_L) (st : List Value) (h : mx_H) (c n : Nat) : mx_G r (t_Mo_taken zz) 0 ls st h c n = (o_push 1 (.int 0)) r (mx_G r (t_Mo_taken zz)) 0 ls st h c n := mx_G_eq (tm_Mo_taken zz) r 0 ls st h c n
theorem st_Mo_taken_1 (zz : Nat × Nat) (r : mx_T) (ls : mx_L) (st : List Value) (h : mx_H) (c n : Nat) : mx_G r (t_Mo_taken zz) 1 ls st h c n = (o_istore 1 2) r (mx_G r (t_Mo_taken zz)) 1 ls st h c n := mx_G_eq (tm_Mo_taken zz) r 1 ls st h c n
theorem st_Mo_taken_2 (zz : Nat × Nat) (r : mx_T) (ls : mx_L) (st : List Value) (h : mx_H) (c n : Nat) : mx_G r (t_Mo_taken zz) 2 ls st h c n = (o_push 1 (.int 0)) r (mx_G r (t_Mo_taken zz)) 2 ls st h c n := mx_G_eq (tm_Mo_taken zz) r 2 ls st h c n
theorem st_Mo_taken_3 (zz : Nat × Nat) (r : mx_T) (ls : mx_L) (st : List Value) (h : mx_H) (c n : Nat) : mx_G r (t_Mo_taken zz) 3 ls st h c n = (o_istore 1 3) r (mx_G r (t_Mo_taken zz)) 3 ls st h c n := mx_G_eq (tm_Mo_taken zz) r 3 ls st h c n
theorem st_Mo_taken_4 (zz : Nat × Nat) (r : mx_T) (ls : mx_L) (st : List Value) (h : mx_H) (c n : Nat) : mx_G r (t_Mo_taken zz) 4 ls st h c n = (o_iload 1 3) r (mx_G r (t_Mo_taken zz)) 4 ls st h c n := mx_G_eq (tm_Mo_taken zz) r 4 ls st h c n
theorem st_Mo_taken_5 (zz : Nat × Nat) (r : mx_T) (ls : mx_L) (st : List Value) (h : mx_H) (c n : Nat) : mx_G r (t_Mo_taken zz) 5 ls st h c n = (o_aload 1 0) r (mx_G r (t_Mo_taken zz)) 5 ls st h c n := mx_G_eq (tm_Mo_taken zz) r 5 ls st h c n
theorem st_Mo_taken_6 (zz : Nat × Nat) (r : mx_T) (ls : mx_L) (st : List Value) (h : mx_H) (c n : Nat) : mx_G r (t_Mo_taken zz) 6 ls st h c n = (o_get 10 0) r (mx_G r (t_Mo_taken zz)) 6 ls st h c n := mx_G_eq (tm_Mo_taken zz) r 6 ls st h c n
theorem st_Mo_taken_9 (zz : Nat × Nat) (r : mx_T) (ls : mx_L) (st : List Value) (h : mx_H) (c n : Nat) : mx_G r (t_Mo_taken zz) 9 ls st h c n = (o_icmp 38 (fun x y => y ≤ x)) r (mx_G r (t_Mo_taken zz)) 9 ls st h c n := mx_G_eq (tm_Mo_taken zz) r 9 ls st h c n
theorem st_Mo_taken_12 (zz : Nat × Nat) (r : mx_T) (ls : mx_L) (st : List Value) (h : mx_H) (c n : Nat) : mx_G r (t_Mo_taken zz) 12 ls st h c n = (o_iload 1 2) r (mx_G r (t_Mo_taken zz)) 12 ls st h c n := mx_G_eq (tm_Mo_taken zz) r 12 ls st h c n
theorem st_Mo_taken_13 (zz : Nat × Nat) (r : mx_T) (ls : mx_L) (st : List Value) (h : mx_H) (c n : Nat) : mx_G r (t_Mo_taken zz) 13 ls st h c n = (o_if 26 (fun x => ¬ x = 0)) r (mx_G r (t_Mo_taken zz)) 13 ls st h c n := mx_G_eq (tm_Mo_taken zz) r 13 ls st h c n
theorem st_Mo_taken_16 (zz : Nat × Nat) (r : mx_T) (ls : mx_L) (st : List Value) (h : mx_H) (c n : Nat) : mx_G r (t_Mo_taken zz) 16 ls st h c n = (o_aload 1 0) r (mx_G r (t_Mo_taken zz)) 16 ls st h c n := mx_G_eq (tm_Mo_taken zz) r 16 ls st h c n
theorem st_Mo_taken_17 (zz : Nat × Nat) (r : mx_T) (ls : mx_L) (st : List Value) (h : mx_H) (c n : Nat) : mx_G r (t_Mo_taken zz) 17 ls st h c n = (o_get 10 1) r (mx_G r (t_Mo_taken zz)) 17 ls st h c n := mx_G_eq (tm_Mo_taken zz) r 17 ls st h c n
theorem st_Mo_taken_20 (zz : Nat × Nat) (r : mx_T) (ls : mx_L) (st : List Value) (h : mx_H) (c n : Nat) : mx_G r (t_Mo_taken zz) 20 ls st h c n = (o_iload 1 3) r (mx_G r (t_Mo_taken zz)) 20 ls st h c n := mx_G_eq (tm_Mo_taken zz) r 20 ls st h c n
theorem st_Mo_taken_21 (zz : Nat × Nat) (r : mx_T) (ls : mx_L) (st : List Value) (h : mx_H) (c n : Nat) : mx_G r (t_Mo_taken zz) 21 ls st h c n = (o_iald .int) r (mx_G r (t_Mo_taken zz)) 21 ls st h c n := mx_G_eq (tm_Mo_taken zz) r 21 ls st h c n
theorem st_Mo_taken_22 (zz : Nat × Nat) (r : mx_T) (ls : mx_L) (st : List Value) (h : mx_H) (c n : Nat) : mx_G r (t_Mo_taken zz) 22 ls st h c n = (o_iload 1 1) r (mx_G r (t_Mo_taken zz)) 22 ls st h c n := mx_G_eq (tm_Mo_taken zz) r 22 ls st h c n
theorem st_Mo_taken_23 (zz : Nat × Nat) (r : mx_T) (ls : mx_L) (st : List Value) (h : mx_H) (c n : Nat) : mx_G r (t_Mo_taken zz) 23 ls st h c n = (o_icmp 30 (fun x y => ¬ x = y)) r (mx_G r (t_Mo_taken zz)) 23 ls st h c n := mx_G_eq (tm_Mo_taken zz) r 23 ls st h c n
theorem st_Mo_taken_26 (zz : Nat × Nat) (r : mx_T) (ls : mx_L) (st : List Value) (h : mx_H) (c n : Nat) : mx_G r (t_Mo_taken zz) 26 ls st h c n = (o_push 1 (.int 1)) r (mx_G r (t_Mo_taken zz)) 26 ls st h c n := mx_G_eq (tm_Mo_taken zz) r 26 ls st h c n
theorem st_Mo_taken_27 (zz : Nat × Nat) (r : mx_T) (ls : mx_L) (st : List Value) (h : mx_H) (c n : Nat) : mx_G r (t_Mo_taken zz) 27 ls st h c n = (o_goto 31) r (mx_G r (t_Mo_taken zz)) 27 ls st h c n := mx_G_eq (tm_Mo_taken zz) r 27 ls st h c n
theorem st_Mo_taken_30 (zz : Nat × Nat) (r : mx_T) (ls : mx_L) (st : List Value) (h : mx_H) (c n : Nat) : mx_G r (t_Mo_taken zz) 30 ls st h c n = (o_push 1 (.int 0)) r (mx_G r (t_Mo_taken zz)) 30 ls st h c n := mx_G_eq (tm_Mo_taken zz) r 30 ls st h c n
theorem st_Mo_taken_31 (zz : Nat × Nat) (r : mx_T) (ls : mx_L) (st : List Value) (h : mx_H) (c n : Nat) : mx_G r (t_Mo_taken zz) 31 ls st h c n = (o_istore 1 2) r (mx_G r (t_Mo_taken zz)) 31 ls st h c n := mx_G_eq (tm_Mo_taken zz) r 31 ls st h c n
theorem st_Mo_taken_32 (zz : Nat × Nat) (r : mx_T) (ls : mx_L) (st : List Value) (h : mx_H) (c n : Nat) : mx_G r (t_Mo_taken zz) 32 ls st h c n = (o_iinc 3 1) r (mx_G r (t_Mo_taken zz)) 32 ls st h c n := mx_G_eq (tm_Mo_taken zz) r 32 ls st h c n
theorem st_Mo_taken_35 (zz : Nat × Nat) (r : mx_T) (ls : mx_L) (st : List Value) (h : mx_H) (c n : Nat) : mx_G r (t_Mo_taken zz) 35 ls st h c n = (o_goto 4) r (mx_G r (t_Mo_taken zz)) 35 ls st h c n := mx_G_eq (tm_Mo_taken zz) r 35 ls st h c n
theorem st_Mo_taken_38 (zz : Nat × Nat) (r : mx_T) (ls : mx_L) (st : List Value) (h : mx_H) (c n : Nat) : mx_G r (t_Mo_taken zz) 38 ls st h c n = (o_push 1 (.int 0)) r (mx_G r (t_Mo_taken zz)) 38 ls st h c n := mx_G_eq (tm_Mo_taken zz) r 38 ls st h c n
theorem st_Mo_taken_39 (zz : Nat × Nat) (r : mx_T) (ls : mx_L) (st : List Value) (h : mx_H) (c n : Nat) : mx_G r (t_Mo_taken zz) 39 ls st h c n = (o_istore 1 3) r (mx_G r (t_Mo_taken zz)) 39 ls st h c n := mx_G_eq (tm_Mo_taken zz) r 39 ls st h c n
theorem st_Mo_taken_40 (zz : Nat × Nat) (r : mx_T) (ls : mx_L) (st : List Value) (h : mx_H) (c n : Nat) : mx_G r (t_Mo_taken zz) 40 ls st h c n = (o_iload 1 3) r (mx_G r (t_Mo_taken zz)) 40 ls st h c n := mx_G_eq (tm_Mo_taken zz) r 40 ls st h c n
theorem st_Mo_taken_41 (zz : Nat × Nat) (r : mx_T) (ls : mx_L) (st : List Value) (h : mx_H) (c n : Nat) : mx_G r (t_Mo_taken zz) 41 ls st h c n = (o_aload 1 0) r (mx_G r (t_Mo_taken zz)) 41 ls st h c n := mx_G_eq (tm_Mo_taken zz) r 41 ls st h c n
theorem st_Mo_taken_42 (zz : Nat × Nat) (r : mx_T) (ls : mx_L) (st : List Value) (h : mx_H) (c n : Nat) : mx_G r (t_Mo_taken zz) 42 ls st h c n = (o_get 10 16) r (mx_G r (t_Mo_taken zz)) 42 ls st h c n := mx_G_eq (tm_Mo_taken zz) r 42 ls st h c n
theorem st_Mo_taken_45 (zz : Nat × Nat) (r : mx_T) (ls : mx_L) (st : List Value) (h : mx_H) (c n : Nat) : mx_G r (t_Mo_taken zz) 45 ls st h c n = (o_icmp 74 (fun x y => y ≤ x)) r (mx_G r (t_Mo_taken zz)) 45 ls st h c n := mx_G_eq (tm_Mo_taken zz) r 45 ls st h c n
theorem st_Mo_taken_48 (zz : Nat × Nat) (r : mx_T) (ls : mx_L) (st : List Value) (h : mx_H) (c n : Nat) : mx_G r (t_Mo_taken zz) 48 ls st h c n = (o_iload 1 2) r (mx_G r (t_Mo_taken zz)) 48 ls st h c n := mx_G_eq (tm_Mo_taken zz) r 48 ls st h c n
theorem st_Mo_taken_49 (zz : Nat × Nat) (r : mx_T) (ls : mx_L) (st : List Value) (h : mx_H) (c n : Nat) : mx_G r (t_Mo_taken zz) 49 ls st h c n = (o_if 62 (fun x => ¬ x = 0)) r (mx_G r (t_Mo_taken zz)) 49 ls st h c n := mx_G_eq (tm_Mo_taken zz) r 49 ls st h c n
theorem st_Mo_taken_52 (zz : Nat × Nat) (r : mx_T) (ls : mx_L) (st : List Value) (h : mx_H) (c n : Nat) : mx_G r (t_Mo_taken zz) 52 ls st h c n = (o_aload 1 0) r (mx_G r (t_Mo_taken zz)) 52 ls st h c n := mx_G_eq (tm_Mo_taken zz) r 52 ls st h c n
theorem st_Mo_taken_53 (zz : Nat × Nat) (r : mx_T) (ls : mx_L) (st : List Value) (h : mx_H) (c n : Nat) : mx_G r (t_Mo_taken zz) 53 ls st h c n = (o_get 10 17) r (mx_G r (t_Mo_taken zz)) 53 ls st h c n := mx_G_eq (tm_Mo_taken zz) r 53 ls st h c n
theorem st_Mo_taken_56 (zz : Nat × Nat) (r : mx_T) (ls : mx_L) (st : List Value) (h : mx_H) (c n : Nat) : mx_G r (t_Mo_taken zz) 56 ls st h c n = (o_iload 1 3) r (mx_G r (t_Mo_taken zz)) 56 ls st h c n := mx_G_eq (tm_Mo_taken zz) r 56 ls st h c n
theorem st_Mo_taken_57 (zz : Nat × Nat) (r : mx_T) (ls : mx_L) (st : List Value) (h : mx_H) (c n : Nat) : mx_G r (t_Mo_taken zz) 57 ls st h c n = (o_iald .int) r (mx_G r (t_Mo_taken zz)) 57 ls st h c n := mx_G_eq (tm_Mo_taken zz) r 57 ls st h c n
theorem st_Mo_taken_58 (zz : Nat × Nat) (r : mx_T) (ls : mx_L) (st : List Value) (h : mx_H) (c n : Nat) : mx_G r (t_Mo_taken zz) 58 ls st h c n = (o_iload 1 1) r (mx_G r (t_Mo_taken zz)) 58 ls st h c n := mx_G_eq (tm_Mo_taken zz) r 58 ls st h c n
theorem st_Mo_taken_59 (zz : Nat × Nat) (r : mx_T) (ls : mx_L) (st : List Value) (h : mx_H) (c n : Nat) : mx_G r (t_Mo_taken zz) 59 ls st h c n = (o_icmp 66 (fun x y => ¬ x = y)) r (mx_G r (t_Mo_taken zz)) 59 ls st h c n := mx_G_eq (tm_Mo_taken zz) r 59 ls st h c n
theorem st_Mo_taken_62 (zz : Nat × Nat) (r : mx_T) (ls : mx_L) (st : List Value) (h : mx_H) (c n : Nat) : mx_G r (t_Mo_taken zz) 62 ls st h c n = (o_push 1 (.int 1)) r (mx_G r (t_Mo_taken zz)) 62 ls st h c n := mx_G_eq (tm_Mo_taken zz) r 62 ls st h c n
theorem st_Mo_taken_63 (zz : Nat × Nat) (r : mx_T) (ls : mx_L) (st : List Value) (h : mx_H) (c n : Nat) : mx_G r (t_Mo_taken zz) 63 ls st h c n = (o_goto 67) r (mx_G r (t_Mo_taken zz)) 63 ls st h c n := mx_G_eq (tm_Mo_taken zz) r 63 ls st h c n
theorem st_Mo_taken_66 (zz : Nat × Nat) (r : mx_T) (ls : mx_L) (st : List Value) (h : mx_H) (c n : Nat) : mx_G r (t_Mo_taken zz) 66 ls st h c n = (o_push 1 (.int 0)) r (mx_G r (t_Mo_taken zz)) 66 ls st h c n := mx_G_eq (tm_Mo_taken zz) r 66 ls st h c n
theorem st_Mo_taken_67 (zz : Nat × Nat) (r : mx_T) (ls : mx_L) (st : List Value) (h : mx_H) (c n : Nat) : mx_G r (t_Mo_taken zz) 67 ls st h c n = (o_istore 1 2) r (mx_G r (t_Mo_taken zz)) 67 ls st h c n := mx_G_eq (tm_Mo_taken zz) r 67 ls st h c n
theorem st_Mo_taken_68 (zz : Nat × Nat) (r : mx_T) (ls : mx_L) (st : List Value) (h : mx_H) (c n : Nat) : mx_G r (t_Mo_taken zz) 68 ls st h c n = (o_iinc 3 1) r (mx_G r (t_Mo_taken zz)) 68 ls st h c n := mx_G_eq (tm_Mo_taken zz) r 68 ls st h c n
theorem st_Mo_taken_71 (zz : Nat × Nat) (r : mx_T) (ls : mx_L) (st : List Value) (h : mx_H) (c n : Nat) : mx_G r (t_Mo_taken zz) 71 ls st h c n = (o_goto 40) r (mx_G r (t_Mo_taken zz)) 71 ls st h c n := mx_G_eq (tm_Mo_taken zz) r 71 ls st h c n
theorem st_Mo_taken_74 (zz : Nat × Nat) (r : mx_T) (ls : mx_L) (st : List Value) (h : mx_H) (c n : Nat) : mx_G r (t_Mo_taken zz) 74 ls st h c n = (o_iload 1 2) r (mx_G r (t_Mo_taken zz)) 74 ls st h c n := mx_G_eq (tm_Mo_taken zz) r 74 ls st h c n
theorem st_Mo_taken_75 (zz : Nat × Nat) (r : mx_T) (ls : mx_L) (st : List Value) (h : mx_H) (c n : Nat) : mx_G r (t_Mo_taken zz) 75 ls st h c n = (o_zret) r (mx_G r (t_Mo_taken zz)) 75 ls st h c n := mx_G_eq (tm_Mo_taken zz) r 75 ls st h c n
theorem d_Mo_frame_0 : decode c_Mo_frame 0 = .ok (.aload_n 0, 1) := by decide +kernel
theorem d_Mo_frame_1 : decode c_Mo_frame 1 = .ok (.getfield 87, 3) := by decide +kernel
theorem d_Mo_frame_4 : decode c_Mo_frame 4 = .ok (.ifCond .ne 49, 3) := by decide +kernel
theorem d_Mo_frame_7 : decode c_Mo_frame 7 = .ok (.aload_n 0, 1) := by decide +kernel
theorem d_Mo_frame_8 : decode c_Mo_frame 8 = .ok (.getfield 81, 3) := by decide +kernel
theorem d_Mo_frame_11 : decode c_Mo_frame 11 = .ok (.bipush 8, 2) := by decide +kernel
theorem d_Mo_frame_13 : decode c_Mo_frame 13 = .ok (.if_icmp .eq 40, 3) := by decide +kernel
theorem d_Mo_frame_16 : decode c_Mo_frame 16 = .ok (.iload_n 1, 1) := by decide +kernel
theorem d_Mo_frame_17 : decode c_Mo_frame 17 = .ok (.iconst 0, 1) := by decide +kernel
theorem d_Mo_frame_18 : decode c_Mo_frame 18 = .ok (.bipush 59, 2) := by decide +kernel
theorem d_Mo_frame_20 : decode c_Mo_frame 20 = .ok (.invokestatic 91, 3) := by decide +kernel
theorem d_Mo_frame_23 : decode c_Mo_frame 23 = .ok (.ifCond .eq 30, 3) := by decide +kernel
theorem d_Mo_frame_26 : decode c_Mo_frame 26 = .ok (.aload_n 0, 1) := by decide +kernel
theorem d_Mo_frame_27 : decode c_Mo_frame 27 = .ok (.iload_n 1, 1) := by decide +kernel
theorem d_Mo_frame_28 : decode c_Mo_frame 28 = .ok (.invokevirtual 95, 3) := by decide +kernel
theorem d_Mo_frame_31 : decode c_Mo_frame 31 = .ok (.ifCond .ne 22, 3) := by decide +kernel
theorem d_Mo_frame_34 : decode c_Mo_frame 34 = .ok (.iload_n 2, 1) := by decide +kernel
theorem d_Mo_frame_35 : decode c_Mo_frame 35 = .ok (.iconst 0, 1) := by decide +kernel
theorem d_Mo_frame_36 : decode c_Mo_frame 36 = .ok (.iconst 3, 1) := by decide +kernel
theorem d_Mo_frame_37 : decode c_Mo_frame 37 = .ok (.invokestatic 91, 3) := by decide +kernel
theorem d_Mo_frame_40 : decode c_Mo_frame 40 = .ok (.ifCond .eq 13, 3) := by decide +kernel
theorem d_Mo_frame_43 : decode c_Mo_frame 43 = .ok (.iload_n 3, 1) := by decide +kernel
theorem d_Mo_frame_44 : decode c_Mo_frame 44 = .ok (.iconst 1, 1) := by decide +kernel
theorem d_Mo_frame_45 : decode c_Mo_frame 45 = .ok (.bipush 8, 2) := by decide +kernel
theorem d_Mo_frame_47 : decode c_Mo_frame 47 = .ok (.invokestatic 91, 3) := by decide +kernel
theorem d_Mo_frame_50 : decode c_Mo_frame 50 = .ok (.ifCond .ne 5, 3) := by decide +kernel
theorem d_Mo_frame_53 : decode c_Mo_frame 53 = .ok (.iconst (-1), 1) := by decide +kernel
theorem d_Mo_frame_54 : decode c_Mo_frame 54 = .ok (.ireturn, 1) := by decide +kernel
theorem d_Mo_frame_55 : decode c_Mo_frame 55 = .ok (.aload_n 0, 1) := by decide +kernel
theorem d_Mo_frame_56 : decode c_Mo_frame 56 = .ok (.getfield 7, 3) := by decide +kernel
theorem d_Mo_frame_59 : decode c_Mo_frame 59 = .ok (.aload_n 0, 1) := by decide +kernel
theorem d_Mo_frame_60 : decode c_Mo_frame 60 = .ok (.getfield 81, 3) := by decide +kernel
theorem d_Mo_frame_63 : decode c_Mo_frame 63 = .ok (.iload_n 1, 1) := by decide +kernel
theorem d_Mo_frame_64 : decode c_Mo_frame 64 = .ok (.iastore, 1) := by decide +kernel
theorem d_Mo_frame_65 : decode c_Mo_frame 65 = .ok (.aload_n 0, 1) := by decide +kernel
theorem d_Mo_frame_66 : decode c_Mo_frame 66 = .ok (.getfield 13, 3) := by decide +kernel
theorem d_Mo_frame_69 : decode c_Mo_frame 69 = .ok (.aload_n 0, 1) := by decide +kernel
theorem d_Mo_frame_70 : decode c_Mo_frame 70 = .ok (.getfield 81, 3) := by decide +kernel
theorem d_Mo_frame_73 : decode c_Mo_frame 73 = .ok (.iload_n 2, 1) := by decide +kernel
theorem d_Mo_frame_74 : decode c_Mo_frame 74 = .ok (.iastore, 1) := by decide +kernel
theorem d_Mo_frame_75 : decode c_Mo_frame 75 = .ok (.aload_n 0, 1) := by decide +kernel
theorem d_Mo_frame_76 : decode c_Mo_frame 76 = .ok (.getfield 16, 3) := by decide +kernel
theorem d_Mo_frame_79 : decode c_Mo_frame 79 = .ok (.aload_n 0, 1) := by decide +kernel
theorem d_Mo_frame_80 : decode c_Mo_frame 80 = .ok (.getfield 81, 3) := by decide +kernel
theorem d_Mo_frame_83 : decode c_Mo_frame 83 = .ok (.iload_n 3, 1) := by decide +kernel
theorem d_Mo_frame_84 : decode c_Mo_frame 84 = .ok (.iastore, 1) := by decide +kernel
theorem d_Mo_frame_85 : decode c_Mo_frame 85 = .ok (.aload_n 0, 1) := by decide +kernel
theorem d_Mo_frame_86 : decode c_Mo_frame 86 = .ok (.getfield 19, 3) := by decide +kernel
theorem d_Mo_frame_89 : decode c_Mo_frame 89 = .ok (.aload_n 0, 1) := by decide +kernel
theorem d_Mo_frame_90 : decode c_Mo_frame 90 = .ok (.getfield 81, 3) := by decide +kernel
theorem d_Mo_frame_93 : decode c_Mo_frame 93 = .ok (.iload 4, 2) := by decide +kernel
theorem d_Mo_frame_95 : decode c_Mo_frame 95 = .ok (.bastore, 1) := by decide +kernel
theorem d_Mo_frame_96 : decode c_Mo_frame 96 = .ok (.aload_n 0, 1) := by decide +kernel
theorem d_Mo_frame_97 : decode c_Mo_frame 97 = .ok (.dup, 1) := by decide +kernel
theorem d_Mo_frame_98 : decode c_Mo_frame 98 = .ok (.getfield 81, 3) := by decide +kernel
theorem d_Mo_frame_101 : decode c_Mo_frame 101 = .ok (.iconst 1, 1) := by decide +kernel
theorem d_Mo_frame_102 : decode c_Mo_frame 102 = .ok (.iadd, 1) := by decide +kernel
theorem d_Mo_frame_103 : decode c_Mo_frame 103 = .ok (.putfield 81, 3) := by decide +kernel
theorem d_Mo_frame_106 : decode c_Mo_frame 106 = .ok (.aload_n 0, 1) := by decide +kernel
theorem d_Mo_frame_107 : decode c_Mo_frame 107 = .ok (.getfield 81, 3) := by decide +kernel
theorem d_Mo_frame_110 : decode c_Mo_frame 110 = .ok (.iconst 1, 1) := by decide +kernel
theorem d_Mo_frame_111 : decode c_Mo_frame 111 = .ok (.isub, 1) := by decide +kernel
theorem d_Mo_frame_112 : decode c_Mo_frame 112 = .ok (.ireturn, 1) := by decide +kernel
def t_Mo_frame (zz : Nat × Nat) : List (Nat × mx_O) := [(0, o_aload 1 0),
  (1, o_get 10 24),
  (4, o_if 53 (fun x => ¬ x = 0)),
  (7, o_aload 1 0),
  (8, o_get 10 0),
  (11, o_push 2 (.int 8)),
  (13, o_icmp 53 (fun x y => x = y)),
  (16, o_iload 1 1),
  (17, o_push 1 (.int 0)),
  (18, o_push 2 (.int 59)),
  (20, o_call 0 0 3 0 0 (fun _ _ => True) (S_Mo_within zz)),
  (23, o_if 53 (fun x => x = 0)),
  (26, o_aload 1 0),
  (27, o_iload 1 1),
  (28, o_call 0 0 2 0 0 (mx_rv 10) (S_Mo_taken zz)),
  (31, o_if 53 (fun x => ¬ x = 0)),
  (34, o_iload 1 2),
  (35, o_push 1 (.int 0)),
  (36, o_push 1 (.int 3)),
  (37, o_call 0 0 3 0 0 (fun _ _ => True) (S_Mo_within zz)),
  (40, o_if 53 (fun x => x = 0)),
  (43, o_iload 1 3),
  (44, o_push 1 (.int 1)),
  (45, o_push 2 (.int 8)),
  (47, o_call 0 0 3 0 0 (fun _ _ => True) (S_Mo_within zz)),
  (50, o_if 55 (fun x => ¬ x = 0)),
  (53, o_push 1 (.int (-1))),
  (54, o_iret),
  (55, o_aload 1 0),
  (56, o_get 10 1),
  (59, o_aload 1 0),
  (60, o_get 10 0),
  (63, o_iload 1 1),
  (64, o_iast .int (fun x => x)),
  (65, o_aload 1 0),
  (66, o_get 10 2),
  (69, o_aload 1 0),
  (70, o_get 10 0),
  (73, o_iload 1 2),
  (74, o_iast .int (fun x => x)),
  (75, o_aload 1 0),
  (76, o_get 10 3),
  (79, o_aload 1 0),
  (80, o_get 10 0),
  (83, o_iload 1 3),
  (84, o_iast .int (fun x => x)),
  (85, o_aload 1 0),
  (86, o_get 10 4),
  (89, o_aload 1 0),
  (90, o_get 10 0),
  (93, o_iload 2 4),
  (95, o_iast .boolean (vp_nar .boolean)),
  (96, o_aload 1 0),
  (97, o_dup),
  (98, o_get 10 0),
  (101, o_push 1 (.int 1)),
  (102, o_ii (fun x y => x + y)),
  (103, o_put 10 0 mx_vI),
  (106, o_aload 1 0),
  (107, o_get 10 0),
  (110, o_push 1 (.int 1)),
  (111, o_ii (fun x y => x - y)),
  (112, o_iret)]
set_option maxRecDepth 100000 in
theorem tm_Mo_frame (zz : Nat × Nat) : mx_All (fun _ o => mx_Mono o) (t_Mo_frame zz) := by
  refine mx_all_cons (mo_st) ?_
  refine mx_all_cons (mo_st) ?_
  refine mx_all_cons (mo_br) ?_
  refine mx_all_cons (mo_st) ?_
  refine mx_all_cons (mo_st) ?_
  refine mx_all_cons (mo_st) ?_
  refine mx_all_cons (mo_br) ?_
  refine mx_all_cons (mo_st) ?_
  refine mx_all_cons (mo_st) ?_
  refine mx_all_cons (mo_st) ?_
  refine mx_all_cons (mo_call (sm_Mo_within zz)) ?_
  refine mx_all_cons (mo_br) ?_
  refine mx_all_cons (mo_st) ?_
  refine mx_all_cons (mo_st) ?_
  refine mx_all_cons (mo_call (sm_Mo_taken zz)) ?_
  refine mx_all_cons (mo_br) ?_
  refine mx_all_cons (mo_st) ?_
  refine mx_all_cons (mo_st) ?_
  refine mx_all_cons (mo_st) ?_
  refine mx_all_cons (mo_call (sm_Mo_within zz)) ?_
  refine mx_all_cons (mo_br) ?_
  refine mx_all_cons (mo_st) ?_
  refine mx_all_cons (mo_st) ?_
  refine mx_all_cons (mo_st) ?_
  refine mx_all_cons (mo_call (sm_Mo_within zz)) ?_
  refine mx_all_cons (mo_br) ?_
  refine mx_all_cons (mo_st) ?_
  refine mx_all_cons (mo_ret) ?_
  refine mx_all_cons (mo_st) ?_
  refine mx_all_cons (mo_st) ?_
  refine mx_all_cons (mo_st) ?_
  refine mx_all_cons (mo_st) ?_
  refine mx_all_cons (mo_st) ?_
  refine mx_all_cons (mo_sc) ?_
  refine mx_all_cons (mo_st) ?_
  refine mx_all_cons (mo_st) ?_
  refine mx_all_cons (mo_st) ?_
  refine mx_all_cons (mo_st) ?_
  refine mx_all_cons (mo_st) ?_
  refine mx_all_cons (mo_sc) ?_
  refine mx_all_cons (mo_st) ?_
  refine mx_all_cons (mo_st) ?_
  refine mx_all_cons (mo_st) ?_
  refine mx_all_cons (mo_st) ?_
  refine mx_all_cons (mo_st) ?_
  refine mx_all_cons (mo_sc) ?_
  refine mx_all_cons (mo_st) ?_
  refine mx_all_cons (mo_st) ?_
  refine mx_all_cons (mo_st) ?_
  refine mx_all_cons (mo_st) ?_
  refine mx_all_cons (mo_st) ?_
  refine mx_all_cons (mo_sc) ?_
  refine mx_all_cons (mo_st) ?_
  refine mx_all_cons (mo_st) ?_
  refine mx_all_cons (mo_st) ?_
  refine mx_all_cons (mo_st) ?_
  refine mx_all_cons (mo_st) ?_
  refine mx_all_cons (mo_sc) ?_
  refine mx_all_cons (mo_st) ?_
  refine mx_all_cons (mo_st) ?_
  refine mx_all_cons (mo_st) ?_
  refine mx_all_cons (mo_st) ?_
  refine mx_all_cons (mo_ret) ?_
  exact mx_all_nil
def S_Mo_frame (zz : Nat × Nat) : mx_Sp := mx_S 5 0 0 (t_Mo_frame zz)
theorem sm_Mo_frame (zz : Nat × Nat) : mx_SMono (S_Mo_frame zz) := mx_S_mono (tm_Mo_frame zz)
abbrev rm_Mo_frame : Room := { frames := 1, cells := 0, slots := 0, locals := 23 }
set_option maxHeartbeats 4000000 in
set_option maxRecDepth 100000 in
theorem m_Mo_frame (l : Launch) (zz : Nat × Nat) : mx_Met l y_Mo_frame (wsOf y_Mo_frame c_Mo_frame 5 (some .int)) rm_Mo_frame wcl (mx_Z zz) 0 0 (S_Mo_frame zz) := by
  refine mx_met (cc := c_Mo_frame) (ret := (some .int)) (by decide) rfl ?_
  intro p e s m args below meth c D A Post X hz hr hlk hnm
  have hm : ∀ w ∈ mw, w.before args s = true := fun w h => X.1.2.2.2.2 w (List.mem_cons_of_mem _ h)
  refine mx_all_cons (ok_aload (fun hl kk => lv_aload_n X.1.1 X.1.2.1 d_Mo_frame_0 rfl hl kk) (fun hl kk => lv_aload_nN X.1.1 X.1.2.1 d_Mo_frame_0 rfl hl kk)) ?_
  refine mx_all_cons (ok_get (C := "HeaderScheduleModel") (T := T_Mo) (N := 40) X (mw_up in_Mo) rfl 24 (by decide) (hm _ w701) (fun _ h9 => h9) d_Mo_frame_1) ?_
  refine mx_all_cons (ok_if (fun kt kf => lv_if_ne X.1.1 X.1.2.1 d_Mo_frame_4 (by decide) kt (fun z => kf (fun g => g z)))) ?_
  refine mx_all_cons (ok_aload (fun hl kk => lv_aload_n X.1.1 X.1.2.1 d_Mo_frame_7 rfl hl kk) (fun hl kk => lv_aload_nN X.1.1 X.1.2.1 d_Mo_frame_7 rfl hl kk)) ?_
  refine mx_all_cons (ok_get (C := "HeaderScheduleModel") (T := T_Mo) (N := 40) X (mw_up in_Mo) rfl 0 (by decide) (hm _ w677) (fun _ h9 => h9) d_Mo_frame_8) ?_
  refine mx_all_cons (ok_push (fun kk => lv_bipush X.1.1 X.1.2.1 d_Mo_frame_11 (by decide) kk)) ?_
  refine mx_all_cons (ok_icmp (fun kt kf => lv_icmp_eq X.1.1 X.1.2.1 d_Mo_frame_13 (by decide) kt kf)) ?_
  refine mx_all_cons (ok_iload (fun hl kk => lv_iload_n X.1.1 X.1.2.1 d_Mo_frame_16 rfl hl kk)) ?_
  refine mx_all_cons (ok_push (fun kk => lv_iconst X.1.1 X.1.2.1 d_Mo_frame_17 (by decide) kk)) ?_
  refine mx_all_cons (ok_push (fun kk => lv_bipush X.1.1 X.1.2.1 d_Mo_frame_18 (by decide) kk)) ?_
  refine mx_all_cons (ok_callS X (mx_Zok_Z zz) hz ⟨(Nat.le_of_ble_eq_true rfl), (Nat.le_of_ble_eq_true rfl)⟩ (m_Mo_within l zz) ⟨mx_cwB 3 hm w804 w802 w40 rfl rfl (by decide +kernel) ⟨(Nat.le_of_ble_eq_true rfl), (Nat.le_of_ble_eq_true rfl)⟩, (hm _ w803)⟩ d_Mo_frame_20) ?_
  refine mx_all_cons (ok_if (fun kt kf => lv_if_eq X.1.1 X.1.2.1 d_Mo_frame_23 (by decide) kt kf)) ?_
  refine mx_all_cons (ok_aload (fun hl kk => lv_aload_n X.1.1 X.1.2.1 d_Mo_frame_26 rfl hl kk) (fun hl kk => lv_aload_nN X.1.1 X.1.2.1 d_Mo_frame_26 rfl hl kk)) ?_
  refine mx_all_cons (ok_iload (fun hl kk => lv_iload_n X.1.1 X.1.2.1 d_Mo_frame_27 rfl hl kk)) ?_
  refine mx_all_cons (ok_callV (C := "HeaderScheduleModel") (T := T_Mo) (N := 40) X (mx_Zok_Z zz) hz ⟨(Nat.le_of_ble_eq_true rfl), (Nat.le_of_ble_eq_true rfl)⟩ (m_Mo_taken l zz) ⟨mx_cwB 1 hm w808 w805 w40 rfl rfl (by decide +kernel) ⟨(Nat.le_of_ble_eq_true rfl), (Nat.le_of_ble_eq_true rfl)⟩, (hm _ w807), hm _ w16⟩ rfl d_Mo_frame_28) ?_
  refine mx_all_cons (ok_if (fun kt kf => lv_if_ne X.1.1 X.1.2.1 d_Mo_frame_31 (by decide) kt (fun z => kf (fun g => g z)))) ?_
  refine mx_all_cons (ok_iload (fun hl kk => lv_iload_n X.1.1 X.1.2.1 d_Mo_frame_34 rfl hl kk)) ?_
  refine mx_all_cons (ok_push (fun kk => lv_iconst X.1.1 X.1.2.1 d_Mo_frame_35 (by decide) kk)) ?_
  refine mx_all_cons (ok_push (fun kk => lv_iconst X.1.1 X.1.2.1 d_Mo_frame_36 (by decide) kk)) ?_
  refine mx_all_cons (ok_callS X (mx_Zok_Z zz) hz ⟨(Nat.le_of_ble_eq_true rfl), (Nat.le_of_ble_eq_true rfl)⟩ (m_Mo_within l zz) ⟨mx_cwB 3 hm w804 w802 w40 rfl rfl (by decide +kernel) ⟨(Nat.le_of_ble_eq_true rfl), (Nat.le_of_ble_eq_true rfl)⟩, (hm _ w803)⟩ d_Mo_frame_37) ?_
  refine mx_all_cons (ok_if (fun kt kf => lv_if_eq X.1.1 X.1.2.1 d_Mo_frame_40 (by decide) kt kf)) ?_
  refine mx_all_cons (ok_iload (fun hl kk => lv_iload_n X.1.1 X.1.2.1 d_Mo_frame_43 rfl hl kk)) ?_
  refine mx_all_cons (ok_push (fun kk => lv_iconst X.1.1 X.1.2.1 d_Mo_frame_44 (by decide) kk)) ?_
  refine mx_all_cons (ok_push (fun kk => lv_bipush X.1.1 X.1.2.1 d_Mo_frame_45 (by decide) kk)) ?_
  refine mx_all_cons (ok_callS X (mx_Zok_Z zz) hz ⟨(Nat.le_of_ble_eq_true rfl), (Nat.le_of_ble_eq_true rfl)⟩ (m_Mo_within l zz) ⟨mx_cwB 3 hm w804 w802 w40 rfl rfl (by decide +kernel) ⟨(Nat.le_of_ble_eq_true rfl), (Nat.le_of_ble_eq_true rfl)⟩, (hm _ w803)⟩ d_Mo_frame_47) ?_
  refine mx_all_cons (ok_if (fun kt kf => lv_if_ne X.1.1 X.1.2.1 d_Mo_frame_50 (by decide) kt (fun z => kf (fun g => g z)))) ?_
  refine mx_all_cons (ok_push (fun kk => lv_iconst X.1.1 X.1.2.1 d_Mo_frame_53 (by decide) kk)) ?_
  refine mx_all_cons (ok_iret X hr hlk d_Mo_frame_54) ?_
  refine mx_all_cons (ok_aload (fun hl kk => lv_aload_n X.1.1 X.1.2.1 d_Mo_frame_55 rfl hl kk) (fun hl kk => lv_aload_nN X.1.1 X.1.2.1 d_Mo_frame_55 rfl hl kk)) ?_
  refine mx_all_cons (ok_get (C := "HeaderScheduleModel") (T := T_Mo) (N := 40) X (mw_up in_Mo) rfl 1 (by decide) (hm _ w678) (fun _ h9 => h9) d_Mo_frame_56) ?_
  refine mx_all_cons (ok_aload (fun hl kk => lv_aload_n X.1.1 X.1.2.1 d_Mo_frame_59 rfl hl kk) (fun hl kk => lv_aload_nN X.1.1 X.1.2.1 d_Mo_frame_59 rfl hl kk)) ?_
  refine mx_all_cons (ok_get (C := "HeaderScheduleModel") (T := T_Mo) (N := 40) X (mw_up in_Mo) rfl 0 (by decide) (hm _ w677) (fun _ h9 => h9) d_Mo_frame_60) ?_
  refine mx_all_cons (ok_iload (fun hl kk => lv_iload_n X.1.1 X.1.2.1 d_Mo_frame_63 rfl hl kk)) ?_
  refine mx_all_cons (ok_iast X d_Mo_frame_64) ?_
  refine mx_all_cons (ok_aload (fun hl kk => lv_aload_n X.1.1 X.1.2.1 d_Mo_frame_65 rfl hl kk) (fun hl kk => lv_aload_nN X.1.1 X.1.2.1 d_Mo_frame_65 rfl hl kk)) ?_
  refine mx_all_cons (ok_get (C := "HeaderScheduleModel") (T := T_Mo) (N := 40) X (mw_up in_Mo) rfl 2 (by decide) (hm _ w679) (fun _ h9 => h9) d_Mo_frame_66) ?_
  refine mx_all_cons (ok_aload (fun hl kk => lv_aload_n X.1.1 X.1.2.1 d_Mo_frame_69 rfl hl kk) (fun hl kk => lv_aload_nN X.1.1 X.1.2.1 d_Mo_frame_69 rfl hl kk)) ?_
  refine mx_all_cons (ok_get (C := "HeaderScheduleModel") (T := T_Mo) (N := 40) X (mw_up in_Mo) rfl 0 (by decide) (hm _ w677) (fun _ h9 => h9) d_Mo_frame_70) ?_
  refine mx_all_cons (ok_iload (fun hl kk => lv_iload_n X.1.1 X.1.2.1 d_Mo_frame_73 rfl hl kk)) ?_
  refine mx_all_cons (ok_iast X d_Mo_frame_74) ?_
  refine mx_all_cons (ok_aload (fun hl kk => lv_aload_n X.1.1 X.1.2.1 d_Mo_frame_75 rfl hl kk) (fun hl kk => lv_aload_nN X.1.1 X.1.2.1 d_Mo_frame_75 rfl hl kk)) ?_
  refine mx_all_cons (ok_get (C := "HeaderScheduleModel") (T := T_Mo) (N := 40) X (mw_up in_Mo) rfl 3 (by decide) (hm _ w680) (fun _ h9 => h9) d_Mo_frame_76) ?_
  refine mx_all_cons (ok_aload (fun hl kk => lv_aload_n X.1.1 X.1.2.1 d_Mo_frame_79 rfl hl kk) (fun hl kk => lv_aload_nN X.1.1 X.1.2.1 d_Mo_frame_79 rfl hl kk)) ?_
  refine mx_all_cons (ok_get (C := "HeaderScheduleModel") (T := T_Mo) (N := 40) X (mw_up in_Mo) rfl 0 (by decide) (hm _ w677) (fun _ h9 => h9) d_Mo_frame_80) ?_
  refine mx_all_cons (ok_iload (fun hl kk => lv_iload_n X.1.1 X.1.2.1 d_Mo_frame_83 rfl hl kk)) ?_
  refine mx_all_cons (ok_iast X d_Mo_frame_84) ?_
  refine mx_all_cons (ok_aload (fun hl kk => lv_aload_n X.1.1 X.1.2.1 d_Mo_frame_85 rfl hl kk) (fun hl kk => lv_aload_nN X.1.1 X.1.2.1 d_Mo_frame_85 rfl hl kk)) ?_
  refine mx_all_cons (ok_get (C := "HeaderScheduleModel") (T := T_Mo) (N := 40) X (mw_up in_Mo) rfl 4 (by decide) (hm _ w681) (fun _ h9 => h9) d_Mo_frame_86) ?_
  refine mx_all_cons (ok_aload (fun hl kk => lv_aload_n X.1.1 X.1.2.1 d_Mo_frame_89 rfl hl kk) (fun hl kk => lv_aload_nN X.1.1 X.1.2.1 d_Mo_frame_89 rfl hl kk)) ?_
  refine mx_all_cons (ok_get (C := "HeaderScheduleModel") (T := T_Mo) (N := 40) X (mw_up in_Mo) rfl 0 (by decide) (hm _ w677) (fun _ h9 => h9) d_Mo_frame_90) ?_
  refine mx_all_cons (ok_iload (fun hl kk => lv_iload X.1.1 X.1.2.1 d_Mo_frame_93 hl kk)) ?_
  refine mx_all_cons (ok_zast X d_Mo_frame_95) ?_
  refine mx_all_cons (ok_aload (fun hl kk => lv_aload_n X.1.1 X.1.2.1 d_Mo_frame_96 rfl hl kk) (fun hl kk => lv_aload_nN X.1.1 X.1.2.1 d_Mo_frame_96 rfl hl kk)) ?_
  refine mx_all_cons (ok_dup X d_Mo_frame_97) ?_
  refine mx_all_cons (ok_get (C := "HeaderScheduleModel") (T := T_Mo) (N := 40) X (mw_up in_Mo) rfl 0 (by decide) (hm _ w677) (fun _ h9 => h9) d_Mo_frame_98) ?_
  refine mx_all_cons (ok_push (fun kk => lv_iconst X.1.1 X.1.2.1 d_Mo_frame_101 (by decide) kk)) ?_
  refine mx_all_cons (ok_ii (fun kk => lv_iadd X.1.1 X.1.2.1 d_Mo_frame_102 kk)) ?_
  refine mx_all_cons (ok_put (C := "HeaderScheduleModel") (T := T_Mo) (N := 40) X (mw_up in_Mo) ty_Mo tyok_Mo nm_Mo rfl 0 (by decide) (hm _ w677) (fun _ h9 => h9) rfl (tyok_Mo 0 (by decide)) mx_vI_ok d_Mo_frame_103) ?_
  refine mx_all_cons (ok_aload (fun hl kk => lv_aload_n X.1.1 X.1.2.1 d_Mo_frame_106 rfl hl kk) (fun hl kk => lv_aload_nN X.1.1 X.1.2.1 d_Mo_frame_106 rfl hl kk)) ?_
  refine mx_all_cons (ok_get (C := "HeaderScheduleModel") (T := T_Mo) (N := 40) X (mw_up in_Mo) rfl 0 (by decide) (hm _ w677) (fun _ h9 => h9) d_Mo_frame_107) ?_
  refine mx_all_cons (ok_push (fun kk => lv_iconst X.1.1 X.1.2.1 d_Mo_frame_110 (by decide) kk)) ?_
  refine mx_all_cons (ok_ii (fun kk => lv_isub X.1.1 X.1.2.1 d_Mo_frame_111 kk)) ?_
  refine mx_all_cons (ok_iret X hr hlk d_Mo_frame_112) ?_
  exact mx_all_nil
theorem st_Mo_frame_0 (zz : Nat × Nat) (r : mx_T) (ls : mx_L) (st : List Value) (h : mx_H) (c n : Nat) : mx_G r (t_Mo_frame zz) 0 ls st h c n = (o_aload 1 0) r (mx_G r (t_Mo_frame zz)) 0 ls st h c n := mx_G_eq (tm_Mo_frame zz) r 0 ls st h c n
theorem st_Mo_frame_1 (zz : Nat × Nat) (r : mx_T) (ls : mx_L) (st : List Value) (h : mx_H) (c n : Nat) : mx_G r (t_Mo_frame zz) 1 ls st h c n = (o_get 10 24) r (mx_G r (t_Mo_frame zz)) 1 ls st h c n := mx_G_eq (tm_Mo_frame zz) r 1 ls st h c n
theorem st_Mo_frame_4 (zz : Nat × Nat) (r : mx_T) (ls : mx_L) (st : List Value) (h : mx_H) (c n : Nat) : mx_G r (t_Mo_frame zz) 4 ls st h c n = (o_if 53 (fun x => ¬ x = 0)) r (mx_G r (t_Mo_frame zz)) 4 ls st h c n := mx_G_eq (tm_Mo_frame zz) r 4 ls st h c n
theorem st_Mo_frame_7 (zz : Nat × Nat) (r : mx_T) (ls : mx_L) (st : List Value) (h : mx_H) (c n : Nat) : mx_G r (t_Mo_frame zz) 7 ls st h c n = (o_aload 1 0) r (mx_G r (t_Mo_frame zz)) 7 ls st h c n := mx_G_eq (tm_Mo_frame zz) r 7 ls st h c n
theorem st_Mo_frame_8 (zz : Nat × Nat) (r : mx_T) (ls : mx_L) (st : List Value) (h : mx_H) (c n : Nat) : mx_G r (t_Mo_frame zz) 8 ls st h c n = (o_get 10 0) r (mx_G r (t_Mo_frame zz)) 8 ls st h c n := mx_G_eq (tm_Mo_frame zz) r 8 ls st h c n
theorem st_Mo_frame_11 (zz : Nat × Nat) (r : mx_T) (ls : mx_L) (st : List Value) (h : mx_H) (c n : Nat) : mx_G r (t_Mo_frame zz) 11 ls st h c n = (o_push 2 (.int 8)) r (mx_G r (t_Mo_frame zz)) 11 ls st h c n := mx_G_eq (tm_Mo_frame zz) r 11 ls st h c n
theorem st_Mo_frame_13 (zz : Nat × Nat) (r : mx_T) (ls : mx_L) (st : List Value) (h : mx_H) (c n : Nat) : mx_G r (t_Mo_frame zz) 13 ls st h c n = (o_icmp 53 (fun x y => x = y)) r (mx_G r (t_Mo_frame zz)) 13 ls st h c n := mx_G_eq (tm_Mo_frame zz) r 13 ls st h c n
theorem st_Mo_frame_16 (zz : Nat × Nat) (r : mx_T) (ls : mx_L) (st : List Value) (h : mx_H) (c n : Nat) : mx_G r (t_Mo_frame zz) 16 ls st h c n = (o_iload 1 1) r (mx_G r (t_Mo_frame zz)) 16 ls st h c n := mx_G_eq (tm_Mo_frame zz) r 16 ls st h c n
theorem st_Mo_frame_17 (zz : Nat × Nat) (r : mx_T) (ls : mx_L) (st : List Value) (h : mx_H) (c n : Nat) : mx_G r (t_Mo_frame zz) 17 ls st h c n = (o_push 1 (.int 0)) r (mx_G r (t_Mo_frame zz)) 17 ls st h c n := mx_G_eq (tm_Mo_frame zz) r 17 ls st h c n
theorem st_Mo_frame_18 (zz : Nat × Nat) (r : mx_T) (ls : mx_L) (st : List Value) (h : mx_H) (c n : Nat) : mx_G r (t_Mo_frame zz) 18 ls st h c n = (o_push 2 (.int 59)) r (mx_G r (t_Mo_frame zz)) 18 ls st h c n := mx_G_eq (tm_Mo_frame zz) r 18 ls st h c n
theorem st_Mo_frame_20 (zz : Nat × Nat) (r : mx_T) (ls : mx_L) (st : List Value) (h : mx_H) (c n : Nat) : mx_G r (t_Mo_frame zz) 20 ls st h c n = (o_call 0 0 3 0 0 (fun _ _ => True) (S_Mo_within zz)) r (mx_G r (t_Mo_frame zz)) 20 ls st h c n := mx_G_eq (tm_Mo_frame zz) r 20 ls st h c n
theorem st_Mo_frame_23 (zz : Nat × Nat) (r : mx_T) (ls : mx_L) (st : List Value) (h : mx_H) (c n : Nat) : mx_G r (t_Mo_frame zz) 23 ls st h c n = (o_if 53 (fun x => x = 0)) r (mx_G r (t_Mo_frame zz)) 23 ls st h c n := mx_G_eq (tm_Mo_frame zz) r 23 ls st h c n
theorem st_Mo_frame_26 (zz : Nat × Nat) (r : mx_T) (ls : mx_L) (st : List Value) (h : mx_H) (c n : Nat) : mx_G r (t_Mo_frame zz) 26 ls st h c n = (o_aload 1 0) r (mx_G r (t_Mo_frame zz)) 26 ls st h c n := mx_G_eq (tm_Mo_frame zz) r 26 ls st h c n
theorem st_Mo_frame_27 (zz : Nat × Nat) (r : mx_T) (ls : mx_L) (st : List Value) (h : mx_H) (c n : Nat) : mx_G r (t_Mo_frame zz) 27 ls st h c n = (o_iload 1 1) r (mx_G r (t_Mo_frame zz)) 27 ls st h c n := mx_G_eq (tm_Mo_frame zz) r 27 ls st h c n
theorem st_Mo_frame_28 (zz : Nat × Nat) (r : mx_T) (ls : mx_L) (st : List Value) (h : mx_H) (c n : Nat) : mx_G r (t_Mo_frame zz) 28 ls st h c n = (o_call 0 0 2 0 0 (mx_rv 10) (S_Mo_taken zz)) r (mx_G r (t_Mo_frame zz)) 28 ls st h c n := mx_G_eq (tm_Mo_frame zz) r 28 ls st h c n
theorem st_Mo_frame_31 (zz : Nat × Nat) (r : mx_T) (ls : mx_L) (st : List Value) (h : mx_H) (c n : Nat) : mx_G r (t_Mo_frame zz) 31 ls st h c n = (o_if 53 (fun x => ¬ x = 0)) r (mx_G r (t_Mo_frame zz)) 31 ls st h c n := mx_G_eq (tm_Mo_frame zz) r 31 ls st h c n
theorem st_Mo_frame_34 (zz : Nat × Nat) (r : mx_T) (ls : mx_L) (st : List Value) (h : mx_H) (c n : Nat) : mx_G r (t_Mo_frame zz) 34 ls st h c n = (o_iload 1 2) r (mx_G r (t_Mo_frame zz)) 34 ls st h c n := mx_G_eq (tm_Mo_frame zz) r 34 ls st h c n
theorem st_Mo_frame_35 (zz : Nat × Nat) (r : mx_T) (ls : mx_L) (st : List Value) (h : mx_H) (c n : Nat) : mx_G r (t_Mo_frame zz) 35 ls st h c n = (o_push 1 (.int 0)) r (mx_G r (t_Mo_frame zz)) 35 ls st h c n := mx_G_eq (tm_Mo_frame zz) r 35 ls st h c n
theorem st_Mo_frame_36 (zz : Nat × Nat) (r : mx_T) (ls : mx_L) (st : List Value) (h : mx_H) (c n : Nat) : mx_G r (t_Mo_frame zz) 36 ls st h c n = (o_push 1 (.int 3)) r (mx_G r (t_Mo_frame zz)) 36 ls st h c n := mx_G_eq (tm_Mo_frame zz) r 36 ls st h c n
theorem st_Mo_frame_37 (zz : Nat × Nat) (r : mx_T) (ls : mx_L) (st : List Value) (h : mx_H) (c n : Nat) : mx_G r (t_Mo_frame zz) 37 ls st h c n = (o_call 0 0 3 0 0 (fun _ _ => True) (S_Mo_within zz)) r (mx_G r (t_Mo_frame zz)) 37 ls st h c n := mx_G_eq (tm_Mo_frame zz) r 37 ls st h c n
theorem st_Mo_frame_40 (zz : Nat × Nat) (r : mx_T) (ls : mx_L) (st : List Value) (h : mx_H) (c n : Nat) : mx_G r (t_Mo_frame zz) 40 ls st h c n = (o_if 53 (fun x => x = 0)) r (mx_G r (t_Mo_frame zz)) 40 ls st h c n := mx_G_eq (tm_Mo_frame zz) r 40 ls st h c n
theorem st_Mo_frame_43 (zz : Nat × Nat) (r : mx_T) (ls : mx_L) (st : List Value) (h : mx_H) (c n : Nat) : mx_G r (t_Mo_frame zz) 43 ls st h c n = (o_iload 1 3) r (mx_G r (t_Mo_frame zz)) 43 ls st h c n := mx_G_eq (tm_Mo_frame zz) r 43 ls st h c n
theorem st_Mo_frame_44 (zz : Nat × Nat) (r : mx_T) (ls : mx_L) (st : List Value) (h : mx_H) (c n : Nat) : mx_G r (t_Mo_frame zz) 44 ls st h c n = (o_push 1 (.int 1)) r (mx_G r (t_Mo_frame zz)) 44 ls st h c n := mx_G_eq (tm_Mo_frame zz) r 44 ls st h c n
theorem st_Mo_frame_45 (zz : Nat × Nat) (r : mx_T) (ls : mx_L) (st : List Value) (h : mx_H) (c n : Nat) : mx_G r (t_Mo_frame zz) 45 ls st h c n = (o_push 2 (.int 8)) r (mx_G r (t_Mo_frame zz)) 45 ls st h c n := mx_G_eq (tm_Mo_frame zz) r 45 ls st h c n
theorem st_Mo_frame_47 (zz : Nat × Nat) (r : mx_T) (ls : mx_L) (st : List Value) (h : mx_H) (c n : Nat) : mx_G r (t_Mo_frame zz) 47 ls st h c n = (o_call 0 0 3 0 0 (fun _ _ => True) (S_Mo_within zz)) r (mx_G r (t_Mo_frame zz)) 47 ls st h c n := mx_G_eq (tm_Mo_frame zz) r 47 ls st h c n
theorem st_Mo_frame_50 (zz : Nat × Nat) (r : mx_T) (ls : mx_L) (st : List Value) (h : mx_H) (c n : Nat) : mx_G r (t_Mo_frame zz) 50 ls st h c n = (o_if 55 (fun x => ¬ x = 0)) r (mx_G r (t_Mo_frame zz)) 50 ls st h c n := mx_G_eq (tm_Mo_frame zz) r 50 ls st h c n
theorem st_Mo_frame_53 (zz : Nat × Nat) (r : mx_T) (ls : mx_L) (st : List Value) (h : mx_H) (c n : Nat) : mx_G r (t_Mo_frame zz) 53 ls st h c n = (o_push 1 (.int (-1))) r (mx_G r (t_Mo_frame zz)) 53 ls st h c n := mx_G_eq (tm_Mo_frame zz) r 53 ls st h c n
theorem st_Mo_frame_54 (zz : Nat × Nat) (r : mx_T) (ls : mx_L) (st : List Value) (h : mx_H) (c n : Nat) : mx_G r (t_Mo_frame zz) 54 ls st h c n = (o_iret) r (mx_G r (t_Mo_frame zz)) 54 ls st h c n := mx_G_eq (tm_Mo_frame zz) r 54 ls st h c n
theorem st_Mo_frame_55 (zz : Nat × Nat) (r : mx_T) (ls : mx_L) (st : List Value) (h : mx_H) (c n : Nat) : mx_G r (t_Mo_frame zz) 55 ls st h c n = (o_aload 1 0) r (mx_G r (t_Mo_frame zz)) 55 ls st h c n := mx_G_eq (tm_Mo_frame zz) r 55 ls st h c n
theorem st_Mo_frame_56 (zz : Nat × Nat) (r : mx_T) (ls : mx_L) (st : List Value) (h : mx_H) (c n : Nat) : mx_G r (t_Mo_frame zz) 56 ls st h c n = (o_get 10 1) r (mx_G r (t_Mo_frame zz)) 56 ls st h c n := mx_G_eq (tm_Mo_frame zz) r 56 ls st h c n
theorem st_Mo_frame_59 (zz : Nat × Nat) (r : mx_T) (ls : mx_L) (st : List Value) (h : mx_H) (c n : Nat) : mx_G r (t_Mo_frame zz) 59 ls st h c n = (o_aload 1 0) r (mx_G r (t_Mo_frame zz)) 59 ls st h c n := mx_G_eq (tm_Mo_frame zz) r 59 ls st h c n
theorem st_Mo_frame_60 (zz : Nat × Nat) (r : mx_T) (ls : mx_L) (st : List Value) (h : mx_H) (c n : Nat) : mx_G r (t_Mo_frame zz) 60 ls st h c n = (o_get 10 0) r (mx_G r (t_Mo_frame zz)) 60 ls st h c n := mx_G_eq (tm_Mo_frame zz) r 60 ls st h c n
theorem st_Mo_frame_63 (zz : Nat × Nat) (r : mx_T) (ls : mx_L) (st : List Value) (h : mx_H) (c n : Nat) : mx_G r (t_Mo_frame zz) 63 ls st h c n = (o_iload 1 1) r (mx_G r (t_Mo_frame zz)) 63 ls st h c n := mx_G_eq (tm_Mo_frame zz) r 63 ls st h c n
theorem st_Mo_frame_64 (zz : Nat × Nat) (r : mx_T) (ls : mx_L) (st : List Value) (h : mx_H) (c n : Nat) : mx_G r (t_Mo_frame zz) 64 ls st h c n = (o_iast .int (fun x => x)) r (mx_G r (t_Mo_frame zz)) 64 ls st h c n := mx_G_eq (tm_Mo_frame zz) r 64 ls st h c n
theorem st_Mo_frame_65 (zz : Nat × Nat) (r : mx_T) (ls : mx_L) (st : List Value) (h : mx_H) (c n : Nat) : mx_G r (t_Mo_frame zz) 65 ls st h c n = (o_aload 1 0) r (mx_G r (t_Mo_frame zz)) 65 ls st h c n := mx_G_eq (tm_Mo_frame zz) r 65 ls st h c n
theorem st_Mo_frame_66 (zz : Nat × Nat) (r : mx_T) (ls : mx_L) (st : List Value) (h : mx_H) (c n : Nat) : mx_G r (t_Mo_frame zz) 66 ls st h c n = (o_get 10 2) r (mx_G r (t_Mo_frame zz)) 66 ls st h c n := mx_G_eq (tm_Mo_frame zz) r 66 ls st h c n
theorem st_Mo_frame_69 (zz : Nat × Nat) (r : mx_T) (ls : mx_L) (st : List Value) (h : mx_H) (c n : Nat) : mx_G r (t_Mo_frame zz) 69 ls st h c n = (o_aload 1 0) r (mx_G r (t_Mo_frame zz)) 69 ls st h c n := mx_G_eq (tm_Mo_frame zz) r 69 ls st h c n
theorem st_Mo_frame_70 (zz : Nat × Nat) (r : mx_T) (ls : mx_L) (st : List Value) (h : mx_H) (c n : Nat) : mx_G r (t_Mo_frame zz) 70 ls st h c n = (o_get 10 0) r (mx_G r (t_Mo_frame zz)) 70 ls st h c n := mx_G_eq (tm_Mo_frame zz) r 70 ls st h c n
theorem st_Mo_frame_73 (zz : Nat × Nat) (r : mx_T) (ls : mx_L) (st : List Value) (h : mx_H) (c n : Nat) : mx_G r (t_Mo_frame zz) 73 ls st h c n = (o_iload 1 2) r (mx_G r (t_Mo_frame zz)) 73 ls st h c n := mx_G_eq (tm_Mo_frame zz) r 73 ls st h c n
theorem st_Mo_frame_74 (zz : Nat × Nat) (r : mx_T) (ls : mx_L) (st : List Value) (h : mx_H) (c n : Nat) : mx_G r (t_Mo_frame zz) 74 ls st h c n = (o_iast .int (fun x => x)) r (mx_G r (t_Mo_frame zz)) 74 ls st h c n := mx_G_eq (tm_Mo_frame zz) r 74 ls st h c n
theorem st_Mo_frame_75 (zz : Nat × Nat) (r : mx_T) (ls : mx_L) (st : List Value) (h : mx_H) (c n : Nat) : mx_G r (t_Mo_frame zz) 75 ls st h c n = (o_aload 1 0) r (mx_G r (t_Mo_frame zz)) 75 ls st h c n := mx_G_eq (tm_Mo_frame zz) r 75 ls st h c n
theorem st_Mo_frame_76 (zz : Nat × Nat) (r : mx_T) (ls : mx_L) (st : List Value) (h : mx_H) (c n : Nat) : mx_G r (t_Mo_frame zz) 76 ls st h c n = (o_get 10 3) r (mx_G r (t_Mo_frame zz)) 76 ls st h c n := mx_G_eq (tm_Mo_frame zz) r 76 ls st h c n
theorem st_Mo_frame_79 (zz : Nat × Nat) (r : mx_T) (ls : mx_L) (st : List Value) (h : mx_H) (c n : Nat) : mx_G r (t_Mo_frame zz) 79 ls st h c n = (o_aload 1 0) r (mx_G r (t_Mo_frame zz)) 79 ls st h c n := mx_G_eq (tm_Mo_frame zz) r 79 ls st h c n
theorem st_Mo_frame_80 (zz : Nat × Nat) (r : mx_T) (ls : mx_L) (st : List Value) (h : mx_H) (c n : Nat) : mx_G r (t_Mo_frame zz) 80 ls st h c n = (o_get 10 0) r (mx_G r (t_Mo_frame zz)) 80 ls st h c n := mx_G_eq (tm_Mo_frame zz) r 80 ls st h c n
theorem st_Mo_frame_83 (zz : Nat × Nat) (r : mx_T) (ls : mx_L) (st : List Value) (h : mx_H) (c n : Nat) : mx_G r (t_Mo_frame zz) 83 ls st h c n = (o_iload 1 3) r (mx_G r (t_Mo_frame zz)) 83 ls st h c n := mx_G_eq (tm_Mo_frame zz) r 83 ls st h c n
theorem st_Mo_frame_84 (zz : Nat × Nat) (r : mx_T) (ls : mx_L) (st : List Value) (h : mx_H) (c n : Nat) : mx_G r (t_Mo_frame zz) 84 ls st h c n = (o_iast .int (fun x => x)) r (mx_G r (t_Mo_frame zz)) 84 ls st h c n := mx_G_eq (tm_Mo_frame zz) r 84 ls st h c n
theorem st_Mo_frame_85 (zz : Nat × Nat) (r : mx_T) (ls : mx_L) (st : List Value) (h : mx_H) (c n : Nat) : mx_G r (t_Mo_frame zz) 85 ls st h c n = (o_aload 1 0) r (mx_G r (t_Mo_frame zz)) 85 ls st h c n := mx_G_eq (tm_Mo_frame zz) r 85 ls st h c n
theorem st_Mo_frame_86 (zz : Nat × Nat) (r : mx_T) (ls : mx_L) (st : List Value) (h : mx_H) (c n : Nat) : mx_G r (t_Mo_frame zz) 86 ls st h c n = (o_get 10 4) r (mx_G r (t_Mo_frame zz)) 86 ls st h c n := mx_G_eq (tm_Mo_frame zz) r 86 ls st h c n
theorem st_Mo_frame_89 (zz : Nat × Nat) (r : mx_T) (ls : mx_L) (st : List Value) (h : mx_H) (c n : Nat) : mx_G r (t_Mo_frame zz) 89 ls st h c n = (o_aload 1 0) r (mx_G r (t_Mo_frame zz)) 89 ls st h c n := mx_G_eq (tm_Mo_frame zz) r 89 ls st h c n
theorem st_Mo_frame_90 (zz : Nat × Nat) (r : mx_T) (ls : mx_L) (st : List Value) (h : mx_H) (c n : Nat) : mx_G r (t_Mo_frame zz) 90 ls st h c n = (o_get 10 0) r (mx_G r (t_Mo_frame zz)) 90 ls st h c n := mx_G_eq (tm_Mo_frame zz) r 90 ls st h c n
theorem st_Mo_frame_93 (zz : Nat × Nat) (r : mx_T) (ls : mx_L) (st : List Value) (h : mx_H) (c n : Nat) : mx_G r (t_Mo_frame zz) 93 ls st h c n = (o_iload 2 4) r (mx_G r (t_Mo_frame zz)) 93 ls st h c n := mx_G_eq (tm_Mo_frame zz) r 93 ls st h c n
theorem st_Mo_frame_95 (zz : Nat × Nat) (r : mx_T) (ls : mx_L) (st : List Value) (h : mx_H) (c n : Nat) : mx_G r (t_Mo_frame zz) 95 ls st h c n = (o_iast .boolean (vp_nar .boolean)) r (mx_G r (t_Mo_frame zz)) 95 ls st h c n := mx_G_eq (tm_Mo_frame zz) r 95 ls st h c n
theorem st_Mo_frame_96 (zz : Nat × Nat) (r : mx_T) (ls : mx_L) (st : List Value) (h : mx_H) (c n : Nat) : mx_G r (t_Mo_frame zz) 96 ls st h c n = (o_aload 1 0) r (mx_G r (t_Mo_frame zz)) 96 ls st h c n := mx_G_eq (tm_Mo_frame zz) r 96 ls st h c n
theorem st_Mo_frame_97 (zz : Nat × Nat) (r : mx_T) (ls : mx_L) (st : List Value) (h : mx_H) (c n : Nat) : mx_G r (t_Mo_frame zz) 97 ls st h c n = (o_dup) r (mx_G r (t_Mo_frame zz)) 97 ls st h c n := mx_G_eq (tm_Mo_frame zz) r 97 ls st h c n
theorem st_Mo_frame_98 (zz : Nat × Nat) (r : mx_T) (ls : mx_L) (st : List Value) (h : mx_H) (c n : Nat) : mx_G r (t_Mo_frame zz) 98 ls st h c n = (o_get 10 0) r (mx_G r (t_Mo_frame zz)) 98 ls st h c n := mx_G_eq (tm_Mo_frame zz) r 98 ls st h c n
theorem st_Mo_frame_101 (zz : Nat × Nat) (r : mx_T) (ls : mx_L) (st : List Value) (h : mx_H) (c n : Nat) : mx_G r (t_Mo_frame zz) 101 ls st h c n = (o_push 1 (.int 1)) r (mx_G r (t_Mo_frame zz)) 101 ls st h c n := mx_G_eq (tm_Mo_frame zz) r 101 ls st h c n
theorem st_Mo_frame_102 (zz : Nat × Nat) (r : mx_T) (ls : mx_L) (st : List Value) (h : mx_H) (c n : Nat) : mx_G r (t_Mo_frame zz) 102 ls st h c n = (o_ii (fun x y => x + y)) r (mx_G r (t_Mo_frame zz)) 102 ls st h c n := mx_G_eq (tm_Mo_frame zz) r 102 ls st h c n
theorem st_Mo_frame_103 (zz : Nat × Nat) (r : mx_T) (ls : mx_L) (st : List Value) (h : mx_H) (c n : Nat) : mx_G r (t_Mo_frame zz) 103 ls st h c n = (o_put 10 0 mx_vI) r (mx_G r (t_Mo_frame zz)) 103 ls st h c n := mx_G_eq (tm_Mo_frame zz) r 103 ls st h c n
theorem st_Mo_frame_106 (zz : Nat × Nat) (r : mx_T) (ls : mx_L) (st : List Value) (h : mx_H) (c n : Nat) : mx_G r (t_Mo_frame zz) 106 ls st h c n = (o_aload 1 0) r (mx_G r (t_Mo_frame zz)) 106 ls st h c n := mx_G_eq (tm_Mo_frame zz) r 106 ls st h c n
theorem st_Mo_frame_107 (zz : Nat × Nat) (r : mx_T) (ls : mx_L) (st : List Value) (h : mx_H) (c n : Nat) : mx_G r (t_Mo_frame zz) 107 ls st h c n = (o_get 10 0) r (mx_G r (t_Mo_frame zz)) 107 ls st h c n := mx_G_eq (tm_Mo_frame zz) r 107 ls st h c n
theorem st_Mo_frame_110 (zz : Nat × Nat) (r : mx_T) (ls : mx_L) (st : List Value) (h : mx_H) (c n : Nat) : mx_G r (t_Mo_frame zz) 110 ls st h c n = (o_push 1 (.int 1)) r (mx_G r (t_Mo_frame zz)) 110 ls st h c n := mx_G_eq (tm_Mo_frame zz) r 110 ls st h c n
theorem st_Mo_frame_111 (zz : Nat × Nat) (r : mx_T) (ls : mx_L) (st : List Value) (h : mx_H) (c n : Nat) : mx_G r (t_Mo_frame zz) 111 ls st h c n = (o_ii (fun x y => x - y)) r (mx_G r (t_Mo_frame zz)) 111 ls st h c n := mx_G_eq (tm_Mo_frame zz) r 111 ls st h c n
theorem st_Mo_frame_112 (zz : Nat × Nat) (r : mx_T) (ls : mx_L) (st : List Value) (h : mx_H) (c n : Nat) : mx_G r (t_Mo_frame zz) 112 ls st h c n = (o_iret) r (mx_G r (t_Mo_frame zz)) 112 ls st h c n := mx_G_eq (tm_Mo_frame zz) r 112 ls st h c n
theorem d_Mo_covers_0 : decode c_Mo_covers 0 = .ok (.iload_n 2, 1) := by decide +kernel
theorem d_Mo_covers_1 : decode c_Mo_covers 1 = .ok (.aload_n 0, 1) := by decide +kernel
theorem d_Mo_covers_2 : decode c_Mo_covers 2 = .ok (.getfield 32, 3) := by decide +kernel
theorem d_Mo_covers_5 : decode c_Mo_covers 5 = .ok (.iload_n 1, 1) := by decide +kernel
theorem d_Mo_covers_6 : decode c_Mo_covers 6 = .ok (.iaload, 1) := by decide +kernel
theorem d_Mo_covers_7 : decode c_Mo_covers 7 = .ok (.if_icmp .lt 24, 3) := by decide +kernel
theorem d_Mo_covers_10 : decode c_Mo_covers 10 = .ok (.iload_n 2, 1) := by decide +kernel
theorem d_Mo_covers_11 : decode c_Mo_covers 11 = .ok (.aload_n 0, 1) := by decide +kernel
theorem d_Mo_covers_12 : decode c_Mo_covers 12 = .ok (.getfield 32, 3) := by decide +kernel
theorem d_Mo_covers_15 : decode c_Mo_covers 15 = .ok (.iload_n 1, 1) := by decide +kernel
theorem d_Mo_covers_16 : decode c_Mo_covers 16 = .ok (.iaload, 1) := by decide +kernel
theorem d_Mo_covers_17 : decode c_Mo_covers 17 = .ok (.aload_n 0, 1) := by decide +kernel
theorem d_Mo_covers_18 : decode c_Mo_covers 18 = .ok (.getfield 35, 3) := by decide +kernel
theorem d_Mo_covers_21 : decode c_Mo_covers 21 = .ok (.iload_n 1, 1) := by decide +kernel
theorem d_Mo_covers_22 : decode c_Mo_covers 22 = .ok (.iaload, 1) := by decide +kernel
theorem d_Mo_covers_23 : decode c_Mo_covers 23 = .ok (.iadd, 1) := by decide +kernel
theorem d_Mo_covers_24 : decode c_Mo_covers 24 = .ok (.if_icmp .ge 7, 3) := by decide +kernel
theorem d_Mo_covers_27 : decode c_Mo_covers 27 = .ok (.iconst 1, 1) := by decide +kernel
theorem d_Mo_covers_28 : decode c_Mo_covers 28 = .ok (.goto 4, 3) := by decide +kernel
theorem d_Mo_covers_31 : decode c_Mo_covers 31 = .ok (.iconst 0, 1) := by decide +kernel
theorem d_Mo_covers_32 : decode c_Mo_covers 32 = .ok (.ireturn, 1) := by decide +kernel
def t_Mo_covers (zz : Nat × Nat) : List (Nat × mx_O) := [(0, o_iload 1 2),
  (1, o_aload 1 0),
  (2, o_get 10 9),
  (5, o_iload 1 1),
  (6, o_iald .int),
  (7, o_icmp 31 (fun x y => x < y)),
  (10, o_iload 1 2),
  (11, o_aload 1 0),
  (12, o_get 10 9),
  (15, o_iload 1 1),
  (16, o_iald .int),
  (17, o_aload 1 0),
  (18, o_get 10 10),
  (21, o_iload 1 1),
  (22, o_iald .int),
  (23, o_ii (fun x y => x + y)),
  (24, o_icmp 31 (fun x y => y ≤ x)),
  (27, o_push 1 (.int 1)),
  (28, o_goto 32),
  (31, o_push 1 (.int 0)),
  (32, o_zret)]
set_option maxRecDepth 100000 in
theorem tm_Mo_covers (zz : Nat × Nat) : mx_All (fun _ o => mx_Mono o) (t_Mo_covers zz) := by
  refine mx_all_cons (mo_st) ?_
  refine mx_all_cons (mo_st) ?_
  refine mx_all_cons (mo_st) ?_
  refine mx_all_cons (mo_st) ?_
  refine mx_all_cons (mo_sc) ?_
  refine mx_all_cons (mo_br) ?_
  refine mx_all_cons (mo_st) ?_
  refine mx_all_cons (mo_st) ?_
  refine mx_all_cons (mo_st) ?_
  refine mx_all_cons (mo_st) ?_
  refine mx_all_cons (mo_sc) ?_
  refine mx_all_cons (mo_st) ?_
  refine mx_all_cons (mo_st) ?_
  refine mx_all_cons (mo_st) ?_
  refine mx_all_cons (mo_sc) ?_
  refine mx_all_cons (mo_st) ?_
  refine mx_all_cons (mo_br) ?_
  refine mx_all_cons (mo_st) ?_
  refine mx_all_cons (mo_st) ?_
  refine mx_all_cons (mo_st) ?_
  refine mx_all_cons (mo_zret) ?_
  exact mx_all_nil
def S_Mo_covers (zz : Nat × Nat) : mx_Sp := mx_S 3 0 0 (t_Mo_covers zz)
theorem sm_Mo_covers (zz : Nat × Nat) : mx_SMono (S_Mo_covers zz) := mx_S_mono (tm_Mo_covers zz)
abbrev rm_Mo_covers : Room := { frames := 0, cells := 0, slots := 0, locals := 0 }
set_option maxHeartbeats 4000000 in
set_option maxRecDepth 100000 in
theorem m_Mo_covers (l : Launch) (zz : Nat × Nat) : mx_Met l y_Mo_covers (wsOf y_Mo_covers c_Mo_covers 3 (some .boolean)) rm_Mo_covers wcl (mx_Z zz) 0 0 (S_Mo_covers zz) := by
  refine mx_met (cc := c_Mo_covers) (ret := (some .boolean)) (by decide) rfl ?_
  intro p e s m args below meth c D A Post X hz hr hlk hnm
  have hm : ∀ w ∈ mw, w.before args s = true := fun w h => X.1.2.2.2.2 w (List.mem_cons_of_mem _ h)
  refine mx_all_cons (ok_iload (fun hl kk => lv_iload_n X.1.1 X.1.2.1 d_Mo_covers_0 rfl hl kk)) ?_
  refine mx_all_cons (ok_aload (fun hl kk => lv_aload_n X.1.1 X.1.2.1 d_Mo_covers_1 rfl hl kk) (fun hl kk => lv_aload_nN X.1.1 X.1.2.1 d_Mo_covers_1 rfl hl kk)) ?_
  refine mx_all_cons (ok_get (C := "HeaderScheduleModel") (T := T_Mo) (N := 40) X (mw_up in_Mo) rfl 9 (by decide) (hm _ w686) (fun _ h9 => h9) d_Mo_covers_2) ?_
  refine mx_all_cons (ok_iload (fun hl kk => lv_iload_n X.1.1 X.1.2.1 d_Mo_covers_5 rfl hl kk)) ?_
  refine mx_all_cons (ok_iald X d_Mo_covers_6) ?_
  refine mx_all_cons (ok_icmp (fun kt kf => lv_icmp_lt X.1.1 X.1.2.1 d_Mo_covers_7 (by decide) kt kf)) ?_
  refine mx_all_cons (ok_iload (fun hl kk => lv_iload_n X.1.1 X.1.2.1 d_Mo_covers_10 rfl hl kk)) ?_
  refine mx_all_cons (ok_aload (fun hl kk => lv_aload_n X.1.1 X.1.2.1 d_Mo_covers_11 rfl hl kk) (fun hl kk => lv_aload_nN X.1.1 X.1.2.1 d_Mo_covers_11 rfl hl kk)) ?_
  refine mx_all_cons (ok_get (C := "HeaderScheduleModel") (T := T_Mo) (N := 40) X (mw_up in_Mo) rfl 9 (by decide) (hm _ w686) (fun _ h9 => h9) d_Mo_covers_12) ?_
  refine mx_all_cons (ok_iload (fun hl kk => lv_iload_n X.1.1 X.1.2.1 d_Mo_covers_15 rfl hl kk)) ?_
  refine mx_all_cons (ok_iald X d_Mo_covers_16) ?_
  refine mx_all_cons (ok_aload (fun hl kk => lv_aload_n X.1.1 X.1.2.1 d_Mo_covers_17 rfl hl kk) (fun hl kk => lv_aload_nN X.1.1 X.1.2.1 d_Mo_covers_17 rfl hl kk)) ?_
  refine mx_all_cons (ok_get (C := "HeaderScheduleModel") (T := T_Mo) (N := 40) X (mw_up in_Mo) rfl 10 (by decide) (hm _ w687) (fun _ h9 => h9) d_Mo_covers_18) ?_
  refine mx_all_cons (ok_iload (fun hl kk => lv_iload_n X.1.1 X.1.2.1 d_Mo_covers_21 rfl hl kk)) ?_
  refine mx_all_cons (ok_iald X d_Mo_covers_22) ?_
  refine mx_all_cons (ok_ii (fun kk => lv_iadd X.1.1 X.1.2.1 d_Mo_covers_23 kk)) ?_
  refine mx_all_cons (ok_icmp (fun kt kf => lv_icmp_ge X.1.1 X.1.2.1 d_Mo_covers_24 (by decide) kt kf)) ?_
  refine mx_all_cons (ok_push (fun kk => lv_iconst X.1.1 X.1.2.1 d_Mo_covers_27 (by decide) kk)) ?_
  refine mx_all_cons (ok_goto X d_Mo_covers_28 (by decide)) ?_
  refine mx_all_cons (ok_push (fun kk => lv_iconst X.1.1 X.1.2.1 d_Mo_covers_31 (by decide) kk)) ?_
  refine mx_all_cons (ok_zret X hr hlk d_Mo_covers_32) ?_
  exact mx_all_nil
theorem st_Mo_covers_0 (zz : Nat × Nat) (r : mx_T) (ls : mx_L) (st : List Value) (h : mx_H) (c n : Nat) : mx_G r (t_Mo_covers zz) 0 ls st h c n = (o_iload 1 2) r (mx_G r (t_Mo_covers zz)) 0 ls st h c n := mx_G_eq (tm_Mo_covers zz) r 0 ls st h c n
theorem st_Mo_covers_1 (zz : Nat × Nat) (r : mx_T) (ls : mx_L) (st : List Value) (h : mx_H) (c n : Nat) : mx_G r (t_Mo_covers zz) 1 ls st h c n = (o_aload 1 0) r (mx_G r (t_Mo_covers zz)) 1 ls st h c n := mx_G_eq (tm_Mo_covers zz) r 1 ls st h c n
theorem st_Mo_covers_2 (zz : Nat × Nat) (r : mx_T) (ls : mx_L) (st : List Value) (h : mx_H) (c n : Nat) : mx_G r (t_Mo_covers zz) 2 ls st h c n = (o_get 10 9) r (mx_G r (t_Mo_covers zz)) 2 ls st h c n := mx_G_eq (tm_Mo_covers zz) r 2 ls st h c n
theorem st_Mo_covers_5 (zz : Nat × Nat) (r : mx_T) (ls : mx_L) (st : List Value) (h : mx_H) (c n : Nat) : mx_G r (t_Mo_covers zz) 5 ls st h c n = (o_iload 1 1) r (mx_G r (t_Mo_covers zz)) 5 ls st h c n := mx_G_eq (tm_Mo_covers zz) r 5 ls st h c n
theorem st_Mo_covers_6 (zz : Nat × Nat) (r : mx_T) (ls : mx_L) (st : List Value) (h : mx_H) (c n : Nat) : mx_G r (t_Mo_covers zz) 6 ls st h c n = (o_iald .int) r (mx_G r (t_Mo_covers zz)) 6 ls st h c n := mx_G_eq (tm_Mo_covers zz) r 6 ls st h c n
theorem st_Mo_covers_7 (zz : Nat × Nat) (r : mx_T) (ls : mx_L) (st : List Value) (h : mx_H) (c n : Nat) : mx_G r (t_Mo_covers zz) 7 ls st h c n = (o_icmp 31 (fun x y => x < y)) r (mx_G r (t_Mo_covers zz)) 7 ls st h c n := mx_G_eq (tm_Mo_covers zz) r 7 ls st h c n
theorem st_Mo_covers_10 (zz : Nat × Nat) (r : mx_T) (ls : mx_L) (st : List Value) (h : mx_H) (c n : Nat) : mx_G r (t_Mo_covers zz) 10 ls st h c n = (o_iload 1 2) r (mx_G r (t_Mo_covers zz)) 10 ls st h c n := mx_G_eq (tm_Mo_covers zz) r 10 ls st h c n
theorem st_Mo_covers_11 (zz : Nat × Nat) (r : mx_T) (ls : mx_L) (st : List Value) (h : mx_H) (c n : Nat) : mx_G r (t_Mo_covers zz) 11 ls st h c n = (o_aload 1 0) r (mx_G r (t_Mo_covers zz)) 11 ls st h c n := mx_G_eq (tm_Mo_covers zz) r 11 ls st h c n
theorem st_Mo_covers_12 (zz : Nat × Nat) (r : mx_T) (ls : mx_L) (st : List Value) (h : mx_H) (c n : Nat) : mx_G r (t_Mo_covers zz) 12 ls st h c n = (o_get 10 9) r (mx_G r (t_Mo_covers zz)) 12 ls st h c n := mx_G_eq (tm_Mo_covers zz) r 12 ls st h c n
theorem st_Mo_covers_15 (zz : Nat × Nat) (r : mx_T) (ls : mx_L) (st : List Value) (h : mx_H) (c n : Nat) : mx_G r (t_Mo_covers zz) 15 ls st h c n = (o_iload 1 1) r (mx_G r (t_Mo_covers zz)) 15 ls st h c n := mx_G_eq (tm_Mo_covers zz) r 15 ls st h c n
theorem st_Mo_covers_16 (zz : Nat × Nat) (r : mx_T) (ls : mx_L) (st : List Value) (h : mx_H) (c n : Nat) : mx_G r (t_Mo_covers zz) 16 ls st h c n = (o_iald .int) r (mx_G r (t_Mo_covers zz)) 16 ls st h c n := mx_G_eq (tm_Mo_covers zz) r 16 ls st h c n
theorem st_Mo_covers_17 (zz : Nat × Nat) (r : mx_T) (ls : mx_L) (st : List Value) (h : mx_H) (c n : Nat) : mx_G r (t_Mo_covers zz) 17 ls st h c n = (o_aload 1 0) r (mx_G r (t_Mo_covers zz)) 17 ls st h c n := mx_G_eq (tm_Mo_covers zz) r 17 ls st h c n
theorem st_Mo_covers_18 (zz : Nat × Nat) (r : mx_T) (ls : mx_L) (st : List Value) (h : mx_H) (c n : Nat) : mx_G r (t_Mo_covers zz) 18 ls st h c n = (o_get 10 10) r (mx_G r (t_Mo_covers zz)) 18 ls st h c n := mx_G_eq (tm_Mo_covers zz) r 18 ls st h c n
theorem st_Mo_covers_21 (zz : Nat × Nat) (r : mx_T) (ls : mx_L) (st : List Value) (h : mx_H) (c n : Nat) : mx_G r (t_Mo_covers zz) 21 ls st h c n = (o_iload 1 1) r (mx_G r (t_Mo_covers zz)) 21 ls st h c n := mx_G_eq (tm_Mo_covers zz) r 21 ls st h c n
theorem st_Mo_covers_22 (zz : Nat × Nat) (r : mx_T) (ls : mx_L) (st : List Value) (h : mx_H) (c n : Nat) : mx_G r (t_Mo_covers zz) 22 ls st h c n = (o_iald .int) r (mx_G r (t_Mo_covers zz)) 22 ls st h c n := mx_G_eq (tm_Mo_covers zz) r 22 ls st h c n
theorem st_Mo_covers_23 (zz : Nat × Nat) (r : mx_T) (ls : mx_L) (st : List Value) (h : mx_H) (c n : Nat) : mx_G r (t_Mo_covers zz) 23 ls st h c n = (o_ii (fun x y => x + y)) r (mx_G r (t_Mo_covers zz)) 23 ls st h c n := mx_G_eq (tm_Mo_covers zz) r 23 ls st h c n
theorem st_Mo_covers_24 (zz : Nat × Nat) (r : mx_T) (ls : mx_L) (st : List Value) (h : mx_H) (c n : Nat) : mx_G r (t_Mo_covers zz) 24 ls st h c n = (o_icmp 31 (fun x y => y ≤ x)) r (mx_G r (t_Mo_covers zz)) 24 ls st h c n := mx_G_eq (tm_Mo_covers zz) r 24 ls st h c n
theorem st_Mo_covers_27 (zz : Nat × Nat) (r : mx_T) (ls : mx_L) (st : List Value) (h : mx_H) (c n : Nat) : mx_G r (t_Mo_covers zz) 27 ls st h c n = (o_push 1 (.int 1)) r (mx_G r (t_Mo_covers zz)) 27 ls st h c n := mx_G_eq (tm_Mo_covers zz) r 27 ls st h c n
theorem st_Mo_covers_28 (zz : Nat × Nat) (r : mx_T) (ls : mx_L) (st : List Value) (h : mx_H) (c n : Nat) : mx_G r (t_Mo_covers zz) 28 ls st h c n = (o_goto 32) r (mx_G r (t_Mo_covers zz)) 28 ls st h c n := mx_G_eq (tm_Mo_covers zz) r 28 ls st h c n
theorem st_Mo_covers_31 (zz : Nat × Nat) (r : mx_T) (ls : mx_L) (st : List Value) (h : mx_H) (c n : Nat) : mx_G r (t_Mo_covers zz) 31 ls st h c n = (o_push 1 (.int 0)) r (mx_G r (t_Mo_covers zz)) 31 ls st h c n := mx_G_eq (tm_Mo_covers zz) r 31 ls st h c n
theorem st_Mo_covers_32 (zz : Nat × Nat) (r : mx_T) (ls : mx_L) (st : List Value) (h : mx_H) (c n : Nat) : mx_G r (t_Mo_covers zz) 32 ls st h c n = (o_zret) r (mx_G r (t_Mo_covers zz)) 32 ls st h c n := mx_G_eq (tm_Mo_covers zz) r 32 ls st h c n
theorem d_Mo_bitTaken_0 : decode c_Mo_bitTaken 0 = .ok (.iconst 0, 1) := by decide +kernel
theorem d_Mo_bitTaken_1 : decode c_Mo_bitTaken 1 = .ok (.istore_n 3, 1) := by decide +kernel
theorem d_Mo_bitTaken_2 : decode c_Mo_bitTaken 2 = .ok (.iconst 0, 1) := by decide +kernel
theorem d_Mo_bitTaken_3 : decode c_Mo_bitTaken 3 = .ok (.istore 4, 2) := by decide +kernel
theorem d_Mo_bitTaken_5 : decode c_Mo_bitTaken 5 = .ok (.iload 4, 2) := by decide +kernel
theorem d_Mo_bitTaken_7 : decode c_Mo_bitTaken 7 = .ok (.aload_n 0, 1) := by decide +kernel
theorem d_Mo_bitTaken_8 : decode c_Mo_bitTaken 8 = .ok (.getfield 99, 3) := by decide +kernel
theorem d_Mo_bitTaken_11 : decode c_Mo_bitTaken 11 = .ok (.if_icmp .ge 40, 3) := by decide +kernel
theorem d_Mo_bitTaken_14 : decode c_Mo_bitTaken 14 = .ok (.iload_n 3, 1) := by decide +kernel
theorem d_Mo_bitTaken_15 : decode c_Mo_bitTaken 15 = .ok (.ifCond .ne 24, 3) := by decide +kernel
theorem d_Mo_bitTaken_18 : decode c_Mo_bitTaken 18 = .ok (.aload_n 0, 1) := by decide +kernel
theorem d_Mo_bitTaken_19 : decode c_Mo_bitTaken 19 = .ok (.getfield 29, 3) := by decide +kernel
theorem d_Mo_bitTaken_22 : decode c_Mo_bitTaken 22 = .ok (.iload 4, 2) := by decide +kernel
theorem d_Mo_bitTaken_24 : decode c_Mo_bitTaken 24 = .ok (.iaload, 1) := by decide +kernel
theorem d_Mo_bitTaken_25 : decode c_Mo_bitTaken 25 = .ok (.iload_n 1, 1) := by decide +kernel
theorem d_Mo_bitTaken_26 : decode c_Mo_bitTaken 26 = .ok (.if_icmp .ne 17, 3) := by decide +kernel
theorem d_Mo_bitTaken_29 : decode c_Mo_bitTaken 29 = .ok (.aload_n 0, 1) := by decide +kernel
theorem d_Mo_bitTaken_30 : decode c_Mo_bitTaken 30 = .ok (.iload 4, 2) := by decide +kernel
theorem d_Mo_bitTaken_32 : decode c_Mo_bitTaken 32 = .ok (.iload_n 2, 1) := by decide +kernel
theorem d_Mo_bitTaken_33 : decode c_Mo_bitTaken 33 = .ok (.invokevirtual 102, 3) := by decide +kernel
theorem d_Mo_bitTaken_36 : decode c_Mo_bitTaken 36 = .ok (.ifCond .eq 7, 3) := by decide +kernel
theorem d_Mo_bitTaken_39 : decode c_Mo_bitTaken 39 = .ok (.iconst 1, 1) := by decide +kernel
theorem d_Mo_bitTaken_40 : decode c_Mo_bitTaken 40 = .ok (.goto 4, 3) := by decide +kernel
theorem d_Mo_bitTaken_43 : decode c_Mo_bitTaken 43 = .ok (.iconst 0, 1) := by decide +kernel
theorem d_Mo_bitTaken_44 : decode c_Mo_bitTaken 44 = .ok (.istore_n 3, 1) := by decide +kernel
theorem d_Mo_bitTaken_45 : decode c_Mo_bitTaken 45 = .ok (.iinc 4 1, 3) := by decide +kernel
theorem d_Mo_bitTaken_48 : decode c_Mo_bitTaken 48 = .ok (.goto (-43), 3) := by decide +kernel
theorem d_Mo_bitTaken_51 : decode c_Mo_bitTaken 51 = .ok (.iload_n 3, 1) := by decide +kernel
theorem d_Mo_bitTaken_52 : decode c_Mo_bitTaken 52 = .ok (.ireturn, 1) := by decide +kernel
def t_Mo_bitTaken (zz : Nat × Nat) : List (Nat × mx_O) := [(0, o_push 1 (.int 0)),
  (1, o_istore 1 3),
  (2, o_push 1 (.int 0)),
  (3, o_istore 2 4),
  (5, o_iload 2 4),
  (7, o_aload 1 0),
  (8, o_get 10 7),
  (11, o_icmp 51 (fun x y => y ≤ x)),
  (14, o_iload 1 3),
  (15, o_if 39 (fun x => ¬ x = 0)),
  (18, o_aload 1 0),
  (19, o_get 10 8),
  (22, o_iload 2 4),
  (24, o_iald .int),
  (25, o_iload 1 1),
  (26, o_icmp 43 (fun x y => ¬ x = y)),
  (29, o_aload 1 0),
  (30, o_iload 2 4),
  (32, o_iload 1 2),
  (33, o_call 0 0 3 0 0 (mx_rv 10) (S_Mo_covers zz)),
  (36, o_if 43 (fun x => x = 0)),
  (39, o_push 1 (.int 1)),
  (40, o_goto 44),
  (43, o_push 1 (.int 0)),
  (44, o_istore 1 3),
  (45, o_iinc 4 1),
  (48, o_goto 5),
  (51, o_iload 1 3),
  (52, o_zret)]
set_option maxRecDepth 100000 in
theorem tm_Mo_bitTaken (zz : Nat × Nat) : mx_All (fun _ o => mx_Mono o) (t_Mo_bitTaken zz) := by
  refine mx_all_cons (mo_st) ?_
  refine mx_all_cons (mo_st) ?_
  refine mx_all_cons (mo_st) ?_
  refine mx_all_cons (mo_st) ?_
  refine mx_all_cons (mo_st) ?_
  refine mx_all_cons (mo_st) ?_
  refine mx_all_cons (mo_st) ?_
  refine mx_all_cons (mo_br) ?_
  refine mx_all_cons (mo_st) ?_
  refine mx_all_cons (mo_br) ?_
  refine mx_all_cons (mo_st) ?_
  refine mx_all_cons (mo_st) ?_
  refine mx_all_cons (mo_st) ?_
  refine mx_all_cons (mo_sc) ?_
  refine mx_all_cons (mo_st) ?_
  refine mx_all_cons (mo_br) ?_
  refine mx_all_cons (mo_st) ?_
  refine mx_all_cons (mo_st) ?_
  refine mx_all_cons (mo_st) ?_
  refine mx_all_cons (mo_call (sm_Mo_covers zz)) ?_
  refine mx_all_cons (mo_br) ?_
  refine mx_all_cons (mo_st) ?_
  refine mx_all_cons (mo_st) ?_
  refine mx_all_cons (mo_st) ?_
  refine mx_all_cons (mo_st) ?_
  refine mx_all_cons (mo_st) ?_
  refine mx_all_cons (mo_st) ?_
  refine mx_all_cons (mo_st) ?_
  refine mx_all_cons (mo_zret) ?_
  exact mx_all_nil
def S_Mo_bitTaken (zz : Nat × Nat) : mx_Sp := mx_S 5 0 0 (t_Mo_bitTaken zz)
theorem sm_Mo_bitTaken (zz : Nat × Nat) : mx_SMono (S_Mo_bitTaken zz) := mx_S_mono (tm_Mo_bitTaken zz)
abbrev rm_Mo_bitTaken : Room := { frames := 1, cells := 0, slots := 0, locals := 22 }
set_option maxHeartbeats 4000000 in
set_option maxRecDepth 100000 in
theorem m_Mo_bitTaken (l : Launch) (zz : Nat × Nat) : mx_Met l y_Mo_bitTaken (wsOf y_Mo_bitTaken c_Mo_bitTaken 5 (some .boolean)) rm_Mo_bitTaken wcl (mx_Z zz) 0 0 (S_Mo_bitTaken zz) := by
  refine mx_met (cc := c_Mo_bitTaken) (ret := (some .boolean)) (by decide) rfl ?_
  intro p e s m args below meth c D A Post X hz hr hlk hnm
  have hm : ∀ w ∈ mw, w.before args s = true := fun w h => X.1.2.2.2.2 w (List.mem_cons_of_mem _ h)
  refine mx_all_cons (ok_push (fun kk => lv_iconst X.1.1 X.1.2.1 d_Mo_bitTaken_0 (by decide) kk)) ?_
  refine mx_all_cons (ok_istore (fun hl kk => lv_istore_n X.1.1 X.1.2.1 d_Mo_bitTaken_1 rfl hl (by decide) rfl kk)) ?_
  refine mx_all_cons (ok_push (fun kk => lv_iconst X.1.1 X.1.2.1 d_Mo_bitTaken_2 (by decide) kk)) ?_
  refine mx_all_cons (ok_istore (fun hl kk => lv_istore X.1.1 X.1.2.1 d_Mo_bitTaken_3 hl (by decide) rfl kk)) ?_
  refine mx_all_cons (ok_iload (fun hl kk => lv_iload X.1.1 X.1.2.1 d_Mo_bitTaken_5 hl kk)) ?_
  refine mx_all_cons (ok_aload (fun hl kk => lv_aload_n X.1.1 X.1.2.1 d_Mo_bitTaken_7 rfl hl kk) (fun hl kk => lv_aload_nN X.1.1 X.1.2.1 d_Mo_bitTaken_7 rfl hl kk)) ?_
  refine mx_all_cons (ok_get (C := "HeaderScheduleModel") (T := T_Mo) (N := 40) X (mw_up in_Mo) rfl 7 (by decide) (hm _ w684) (fun _ h9 => h9) d_Mo_bitTaken_8) ?_
  refine mx_all_cons (ok_icmp (fun kt kf => lv_icmp_ge X.1.1 X.1.2.1 d_Mo_bitTaken_11 (by decide) kt kf)) ?_
  refine mx_all_cons (ok_iload (fun hl kk => lv_iload_n X.1.1 X.1.2.1 d_Mo_bitTaken_14 rfl hl kk)) ?_
  refine mx_all_cons (ok_if (fun kt kf => lv_if_ne X.1.1 X.1.2.1 d_Mo_bitTaken_15 (by decide) kt (fun z => kf (fun g => g z)))) ?_
  refine mx_all_cons (ok_aload (fun hl kk => lv_aload_n X.1.1 X.1.2.1 d_Mo_bitTaken_18 rfl hl kk) (fun hl kk => lv_aload_nN X.1.1 X.1.2.1 d_Mo_bitTaken_18 rfl hl kk)) ?_
  refine mx_all_cons (ok_get (C := "HeaderScheduleModel") (T := T_Mo) (N := 40) X (mw_up in_Mo) rfl 8 (by decide) (hm _ w685) (fun _ h9 => h9) d_Mo_bitTaken_19) ?_
  refine mx_all_cons (ok_iload (fun hl kk => lv_iload X.1.1 X.1.2.1 d_Mo_bitTaken_22 hl kk)) ?_
  refine mx_all_cons (ok_iald X d_Mo_bitTaken_24) ?_
  refine mx_all_cons (ok_iload (fun hl kk => lv_iload_n X.1.1 X.1.2.1 d_Mo_bitTaken_25 rfl hl kk)) ?_
  refine mx_all_cons (ok_icmp (fun kt kf => lv_icmp_ne X.1.1 X.1.2.1 d_Mo_bitTaken_26 (by decide) kt (fun z => kf (fun g => g z)))) ?_
  refine mx_all_cons (ok_aload (fun hl kk => lv_aload_n X.1.1 X.1.2.1 d_Mo_bitTaken_29 rfl hl kk) (fun hl kk => lv_aload_nN X.1.1 X.1.2.1 d_Mo_bitTaken_29 rfl hl kk)) ?_
  refine mx_all_cons (ok_iload (fun hl kk => lv_iload X.1.1 X.1.2.1 d_Mo_bitTaken_30 hl kk)) ?_
  refine mx_all_cons (ok_iload (fun hl kk => lv_iload_n X.1.1 X.1.2.1 d_Mo_bitTaken_32 rfl hl kk)) ?_
  refine mx_all_cons (ok_callV (C := "HeaderScheduleModel") (T := T_Mo) (N := 40) X (mx_Zok_Z zz) hz ⟨(Nat.le_of_ble_eq_true rfl), (Nat.le_of_ble_eq_true rfl)⟩ (m_Mo_covers l zz) ⟨mx_cwB 2 hm w820 w817 w40 rfl rfl (by decide +kernel) ⟨(Nat.le_of_ble_eq_true rfl), (Nat.le_of_ble_eq_true rfl)⟩, (hm _ w819), hm _ w18⟩ rfl d_Mo_bitTaken_33) ?_
  refine mx_all_cons (ok_if (fun kt kf => lv_if_eq X.1.1 X.1.2.1 d_Mo_bitTaken_36 (by decide) kt kf)) ?_
  refine mx_all_cons (ok_push (fun kk => lv_iconst X.1.1 X.1.2.1 d_Mo_bitTaken_39 (by decide) kk)) ?_
  refine mx_all_cons (ok_goto X d_Mo_bitTaken_40 (by decide)) ?_
  refine mx_all_cons (ok_push (fun kk => lv_iconst X.1.1 X.1.2.1 d_Mo_bitTaken_43 (by decide) kk)) ?_
  refine mx_all_cons (ok_istore (fun hl kk => lv_istore_n X.1.1 X.1.2.1 d_Mo_bitTaken_44 rfl hl (by decide) rfl kk)) ?_
  refine mx_all_cons (ok_iinc X (by decide) (by decide) d_Mo_bitTaken_45) ?_
  refine mx_all_cons (ok_goto X d_Mo_bitTaken_48 (by decide)) ?_
  refine mx_all_cons (ok_iload (fun hl kk => lv_iload_n X.1.1 X.1.2.1 d_Mo_bitTaken_51 rfl hl kk)) ?_
  refine mx_all_cons (ok_zret X hr hlk d_Mo_bitTaken_52) ?_
  exact mx_all_nil
theorem st_Mo_bitTaken_0 (zz : Nat × Nat) (r : mx_T) (ls : mx_L) (st : List Value) (h : mx_H) (c n : Nat) : mx_G r (t_Mo_bitTaken zz) 0 ls st h c n = (o_push 1 (.int 0)) r (mx_G r (t_Mo_bitTaken zz)) 0 ls st h c n := mx_G_eq (tm_Mo_bitTaken zz) r 0 ls st h c n
theorem st_Mo_bitTaken_1 (zz : Nat × Nat) (r : mx_T) (ls : mx_L) (st : List Value) (h : mx_H) (c n : Nat) : mx_G r (t_Mo_bitTaken zz) 1 ls st h c n = (o_istore 1 3) r (mx_G r (t_Mo_bitTaken zz)) 1 ls st h c n := mx_G_eq (tm_Mo_bitTaken zz) r 1 ls st h c n
theorem st_Mo_bitTaken_2 (zz : Nat × Nat) (r : mx_T) (ls : mx_L) (st : List Value) (h : mx_H) (c n : Nat) : mx_G r (t_Mo_bitTaken zz) 2 ls st h c n = (o_push 1 (.int 0)) r (mx_G r (t_Mo_bitTaken zz)) 2 ls st h c n := mx_G_eq (tm_Mo_bitTaken zz) r 2 ls st h c n
theorem st_Mo_bitTaken_3 (zz : Nat × Nat) (r : mx_T) (ls : mx_L) (st : List Value) (h : mx_H) (c n : Nat) : mx_G r (t_Mo_bitTaken zz) 3 ls st h c n = (o_istore 2 4) r (mx_G r (t_Mo_bitTaken zz)) 3 ls st h c n := mx_G_eq (tm_Mo_bitTaken zz) r 3 ls st h c n
theorem st_Mo_bitTaken_5 (zz : Nat × Nat) (r : mx_T) (ls : mx_L) (st : List Value) (h : mx_H) (c n : Nat) : mx_G r (t_Mo_bitTaken zz) 5 ls st h c n = (o_iload 2 4) r (mx_G r (t_Mo_bitTaken zz)) 5 ls st h c n := mx_G_eq (tm_Mo_bitTaken zz) r 5 ls st h c n
theorem st_Mo_bitTaken_7 (zz : Nat × Nat) (r : mx_T) (ls : mx_L) (st : List Value) (h : mx_H) (c n : Nat) : mx_G r (t_Mo_bitTaken zz) 7 ls st h c n = (o_aload 1 0) r (mx_G r (t_Mo_bitTaken zz)) 7 ls st h c n := mx_G_eq (tm_Mo_bitTaken zz) r 7 ls st h c n
theorem st_Mo_bitTaken_8 (zz : Nat × Nat) (r : mx_T) (ls : mx_L) (st : List Value) (h : mx_H) (c n : Nat) : mx_G r (t_Mo_bitTaken zz) 8 ls st h c n = (o_get 10 7) r (mx_G r (t_Mo_bitTaken zz)) 8 ls st h c n := mx_G_eq (tm_Mo_bitTaken zz) r 8 ls st h c n
theorem st_Mo_bitTaken_11 (zz : Nat × Nat) (r : mx_T) (ls : mx_L) (st : List Value) (h : mx_H) (c n : Nat) : mx_G r (t_Mo_bitTaken zz) 11 ls st h c n = (o_icmp 51 (fun x y => y ≤ x)) r (mx_G r (t_Mo_bitTaken zz)) 11 ls st h c n := mx_G_eq (tm_Mo_bitTaken zz) r 11 ls st h c n
theorem st_Mo_bitTaken_14 (zz : Nat × Nat) (r : mx_T) (ls : mx_L) (st : List Value) (h : mx_H) (c n : Nat) : mx_G r (t_Mo_bitTaken zz) 14 ls st h c n = (o_iload 1 3) r (mx_G r (t_Mo_bitTaken zz)) 14 ls st h c n := mx_G_eq (tm_Mo_bitTaken zz) r 14 ls st h c n
theorem st_Mo_bitTaken_15 (zz : Nat × Nat) (r : mx_T) (ls : mx_L) (st : List Value) (h : mx_H) (c n : Nat) : mx_G r (t_Mo_bitTaken zz) 15 ls st h c n = (o_if 39 (fun x => ¬ x = 0)) r (mx_G r (t_Mo_bitTaken zz)) 15 ls st h c n := mx_G_eq (tm_Mo_bitTaken zz) r 15 ls st h c n
theorem st_Mo_bitTaken_18 (zz : Nat × Nat) (r : mx_T) (ls : mx_L) (st : List Value) (h : mx_H) (c n : Nat) : mx_G r (t_Mo_bitTaken zz) 18 ls st h c n = (o_aload 1 0) r (mx_G r (t_Mo_bitTaken zz)) 18 ls st h c n := mx_G_eq (tm_Mo_bitTaken zz) r 18 ls st h c n
theorem st_Mo_bitTaken_19 (zz : Nat × Nat) (r : mx_T) (ls : mx_L) (st : List Value) (h : mx_H) (c n : Nat) : mx_G r (t_Mo_bitTaken zz) 19 ls st h c n = (o_get 10 8) r (mx_G r (t_Mo_bitTaken zz)) 19 ls st h c n := mx_G_eq (tm_Mo_bitTaken zz) r 19 ls st h c n
theorem st_Mo_bitTaken_22 (zz : Nat × Nat) (r : mx_T) (ls : mx_L) (st : List Value) (h : mx_H) (c n : Nat) : mx_G r (t_Mo_bitTaken zz) 22 ls st h c n = (o_iload 2 4) r (mx_G r (t_Mo_bitTaken zz)) 22 ls st h c n := mx_G_eq (tm_Mo_bitTaken zz) r 22 ls st h c n
theorem st_Mo_bitTaken_24 (zz : Nat × Nat) (r : mx_T) (ls : mx_L) (st : List Value) (h : mx_H) (c n : Nat) : mx_G r (t_Mo_bitTaken zz) 24 ls st h c n = (o_iald .int) r (mx_G r (t_Mo_bitTaken zz)) 24 ls st h c n := mx_G_eq (tm_Mo_bitTaken zz) r 24 ls st h c n
theorem st_Mo_bitTaken_25 (zz : Nat × Nat) (r : mx_T) (ls : mx_L) (st : List Value) (h : mx_H) (c n : Nat) : mx_G r (t_Mo_bitTaken zz) 25 ls st h c n = (o_iload 1 1) r (mx_G r (t_Mo_bitTaken zz)) 25 ls st h c n := mx_G_eq (tm_Mo_bitTaken zz) r 25 ls st h c n
theorem st_Mo_bitTaken_26 (zz : Nat × Nat) (r : mx_T) (ls : mx_L) (st : List Value) (h : mx_H) (c n : Nat) : mx_G r (t_Mo_bitTaken zz) 26 ls st h c n = (o_icmp 43 (fun x y => ¬ x = y)) r (mx_G r (t_Mo_bitTaken zz)) 26 ls st h c n := mx_G_eq (tm_Mo_bitTaken zz) r 26 ls st h c n
theorem st_Mo_bitTaken_29 (zz : Nat × Nat) (r : mx_T) (ls : mx_L) (st : List Value) (h : mx_H) (c n : Nat) : mx_G r (t_Mo_bitTaken zz) 29 ls st h c n = (o_aload 1 0) r (mx_G r (t_Mo_bitTaken zz)) 29 ls st h c n := mx_G_eq (tm_Mo_bitTaken zz) r 29 ls st h c n
theorem st_Mo_bitTaken_30 (zz : Nat × Nat) (r : mx_T) (ls : mx_L) (st : List Value) (h : mx_H) (c n : Nat) : mx_G r (t_Mo_bitTaken zz) 30 ls st h c n = (o_iload 2 4) r (mx_G r (t_Mo_bitTaken zz)) 30 ls st h c n := mx_G_eq (tm_Mo_bitTaken zz) r 30 ls st h c n
theorem st_Mo_bitTaken_32 (zz : Nat × Nat) (r : mx_T) (ls : mx_L) (st : List Value) (h : mx_H) (c n : Nat) : mx_G r (t_Mo_bitTaken zz) 32 ls st h c n = (o_iload 1 2) r (mx_G r (t_Mo_bitTaken zz)) 32 ls st h c n := mx_G_eq (tm_Mo_bitTaken zz) r 32 ls st h c n
theorem st_Mo_bitTaken_33 (zz : Nat × Nat) (r : mx_T) (ls : mx_L) (st : List Value) (h : mx_H) (c n : Nat) : mx_G r (t_Mo_bitTaken zz) 33 ls st h c n = (o_call 0 0 3 0 0 (mx_rv 10) (S_Mo_covers zz)) r (mx_G r (t_Mo_bitTaken zz)) 33 ls st h c n := mx_G_eq (tm_Mo_bitTaken zz) r 33 ls st h c n
theorem st_Mo_bitTaken_36 (zz : Nat × Nat) (r : mx_T) (ls : mx_L) (st : List Value) (h : mx_H) (c n : Nat) : mx_G r (t_Mo_bitTaken zz) 36 ls st h c n = (o_if 43 (fun x => x = 0)) r (mx_G r (t_Mo_bitTaken zz)) 36 ls st h c n := mx_G_eq (tm_Mo_bitTaken zz) r 36 ls st h c n
theorem st_Mo_bitTaken_39 (zz : Nat × Nat) (r : mx_T) (ls : mx_L) (st : List Value) (h : mx_H) (c n : Nat) : mx_G r (t_Mo_bitTaken zz) 39 ls st h c n = (o_push 1 (.int 1)) r (mx_G r (t_Mo_bitTaken zz)) 39 ls st h c n := mx_G_eq (tm_Mo_bitTaken zz) r 39 ls st h c n
theorem st_Mo_bitTaken_40 (zz : Nat × Nat) (r : mx_T) (ls : mx_L) (st : List Value) (h : mx_H) (c n : Nat) : mx_G r (t_Mo_bitTaken zz) 40 ls st h c n = (o_goto 44) r (mx_G r (t_Mo_bitTaken zz)) 40 ls st h c n := mx_G_eq (tm_Mo_bitTaken zz) r 40 ls st h c n
theorem st_Mo_bitTaken_43 (zz : Nat × Nat) (r : mx_T) (ls : mx_L) (st : List Value) (h : mx_H) (c n : Nat) : mx_G r (t_Mo_bitTaken zz) 43 ls st h c n = (o_push 1 (.int 0)) r (mx_G r (t_Mo_bitTaken zz)) 43 ls st h c n := mx_G_eq (tm_Mo_bitTaken zz) r 43 ls st h c n
theorem st_Mo_bitTaken_44 (zz : Nat × Nat) (r : mx_T) (ls : mx_L) (st : List Value) (h : mx_H) (c n : Nat) : mx_G r (t_Mo_bitTaken zz) 44 ls st h c n = (o_istore 1 3) r (mx_G r (t_Mo_bitTaken zz)) 44 ls st h c n := mx_G_eq (tm_Mo_bitTaken zz) r 44 ls st h c n
theorem st_Mo_bitTaken_45 (zz : Nat × Nat) (r : mx_T) (ls : mx_L) (st : List Value) (h : mx_H) (c n : Nat) : mx_G r (t_Mo_bitTaken zz) 45 ls st h c n = (o_iinc 4 1) r (mx_G r (t_Mo_bitTaken zz)) 45 ls st h c n := mx_G_eq (tm_Mo_bitTaken zz) r 45 ls st h c n
theorem st_Mo_bitTaken_48 (zz : Nat × Nat) (r : mx_T) (ls : mx_L) (st : List Value) (h : mx_H) (c n : Nat) : mx_G r (t_Mo_bitTaken zz) 48 ls st h c n = (o_goto 5) r (mx_G r (t_Mo_bitTaken zz)) 48 ls st h c n := mx_G_eq (tm_Mo_bitTaken zz) r 48 ls st h c n
theorem st_Mo_bitTaken_51 (zz : Nat × Nat) (r : mx_T) (ls : mx_L) (st : List Value) (h : mx_H) (c n : Nat) : mx_G r (t_Mo_bitTaken zz) 51 ls st h c n = (o_iload 1 3) r (mx_G r (t_Mo_bitTaken zz)) 51 ls st h c n := mx_G_eq (tm_Mo_bitTaken zz) r 51 ls st h c n
theorem st_Mo_bitTaken_52 (zz : Nat × Nat) (r : mx_T) (ls : mx_L) (st : List Value) (h : mx_H) (c n : Nat) : mx_G r (t_Mo_bitTaken zz) 52 ls st h c n = (o_zret) r (mx_G r (t_Mo_bitTaken zz)) 52 ls st h c n := mx_G_eq (tm_Mo_bitTaken zz) r 52 ls st h c n
theorem d_Mo_signal_0 : decode c_Mo_signal 0 = .ok (.aload_n 0, 1) := by decide +kernel
theorem d_Mo_signal_1 : decode c_Mo_signal 1 = .ok (.getfield 87, 3) := by decide +kernel
theorem d_Mo_signal_4 : decode c_Mo_signal 4 = .ok (.ifCond .ne 36, 3) := by decide +kernel
theorem d_Mo_signal_7 : decode c_Mo_signal 7 = .ok (.aload_n 0, 1) := by decide +kernel
theorem d_Mo_signal_8 : decode c_Mo_signal 8 = .ok (.getfield 99, 3) := by decide +kernel
theorem d_Mo_signal_11 : decode c_Mo_signal 11 = .ok (.bipush 16, 2) := by decide +kernel
theorem d_Mo_signal_13 : decode c_Mo_signal 13 = .ok (.if_icmp .eq 27, 3) := by decide +kernel
theorem d_Mo_signal_16 : decode c_Mo_signal 16 = .ok (.iload_n 1, 1) := by decide +kernel
theorem d_Mo_signal_17 : decode c_Mo_signal 17 = .ok (.iconst 0, 1) := by decide +kernel
theorem d_Mo_signal_18 : decode c_Mo_signal 18 = .ok (.aload_n 0, 1) := by decide +kernel
theorem d_Mo_signal_19 : decode c_Mo_signal 19 = .ok (.getfield 81, 3) := by decide +kernel
theorem d_Mo_signal_22 : decode c_Mo_signal 22 = .ok (.iconst 1, 1) := by decide +kernel
theorem d_Mo_signal_23 : decode c_Mo_signal 23 = .ok (.isub, 1) := by decide +kernel
theorem d_Mo_signal_24 : decode c_Mo_signal 24 = .ok (.invokestatic 91, 3) := by decide +kernel
theorem d_Mo_signal_27 : decode c_Mo_signal 27 = .ok (.ifCond .eq 13, 3) := by decide +kernel
theorem d_Mo_signal_30 : decode c_Mo_signal 30 = .ok (.iload_n 3, 1) := by decide +kernel
theorem d_Mo_signal_31 : decode c_Mo_signal 31 = .ok (.iconst 1, 1) := by decide +kernel
theorem d_Mo_signal_32 : decode c_Mo_signal 32 = .ok (.bipush 16, 2) := by decide +kernel
theorem d_Mo_signal_34 : decode c_Mo_signal 34 = .ok (.invokestatic 91, 3) := by decide +kernel
theorem d_Mo_signal_37 : decode c_Mo_signal 37 = .ok (.ifCond .ne 5, 3) := by decide +kernel
theorem d_Mo_signal_40 : decode c_Mo_signal 40 = .ok (.iconst (-1), 1) := by decide +kernel
theorem d_Mo_signal_41 : decode c_Mo_signal 41 = .ok (.ireturn, 1) := by decide +kernel
theorem d_Mo_signal_42 : decode c_Mo_signal 42 = .ok (.aload_n 0, 1) := by decide +kernel
theorem d_Mo_signal_43 : decode c_Mo_signal 43 = .ok (.getfield 26, 3) := by decide +kernel
theorem d_Mo_signal_46 : decode c_Mo_signal 46 = .ok (.iload_n 1, 1) := by decide +kernel
theorem d_Mo_signal_47 : decode c_Mo_signal 47 = .ok (.iaload, 1) := by decide +kernel
theorem d_Mo_signal_48 : decode c_Mo_signal 48 = .ok (.ifCond .le 8, 3) := by decide +kernel
theorem d_Mo_signal_51 : decode c_Mo_signal 51 = .ok (.bipush 8, 2) := by decide +kernel
theorem d_Mo_signal_53 : decode c_Mo_signal 53 = .ok (.goto 4, 3) := by decide +kernel
theorem d_Mo_signal_56 : decode c_Mo_signal 56 = .ok (.iconst 0, 1) := by decide +kernel
theorem d_Mo_signal_57 : decode c_Mo_signal 57 = .ok (.istore 5, 2) := by decide +kernel
theorem d_Mo_signal_59 : decode c_Mo_signal 59 = .ok (.iload_n 2, 1) := by decide +kernel
theorem d_Mo_signal_60 : decode c_Mo_signal 60 = .ok (.iload 5, 2) := by decide +kernel
theorem d_Mo_signal_62 : decode c_Mo_signal 62 = .ok (.bipush 8, 2) := by decide +kernel
theorem d_Mo_signal_64 : decode c_Mo_signal 64 = .ok (.aload_n 0, 1) := by decide +kernel
theorem d_Mo_signal_65 : decode c_Mo_signal 65 = .ok (.getfield 16, 3) := by decide +kernel
theorem d_Mo_signal_68 : decode c_Mo_signal 68 = .ok (.iload_n 1, 1) := by decide +kernel
theorem d_Mo_signal_69 : decode c_Mo_signal 69 = .ok (.iaload, 1) := by decide +kernel
theorem d_Mo_signal_70 : decode c_Mo_signal 70 = .ok (.imul, 1) := by decide +kernel
theorem d_Mo_signal_71 : decode c_Mo_signal 71 = .ok (.iload_n 3, 1) := by decide +kernel
theorem d_Mo_signal_72 : decode c_Mo_signal 72 = .ok (.isub, 1) := by decide +kernel
theorem d_Mo_signal_73 : decode c_Mo_signal 73 = .ok (.invokestatic 91, 3) := by decide +kernel
theorem d_Mo_signal_76 : decode c_Mo_signal 76 = .ok (.ifCond .eq 17, 3) := by decide +kernel
theorem d_Mo_signal_79 : decode c_Mo_signal 79 = .ok (.iload 4, 2) := by decide +kernel
theorem d_Mo_signal_81 : decode c_Mo_signal 81 = .ok (.iconst 0, 1) := by decide +kernel
theorem d_Mo_signal_82 : decode c_Mo_signal 82 = .ok (.iconst 1, 1) := by decide +kernel
theorem d_Mo_signal_83 : decode c_Mo_signal 83 = .ok (.iload_n 3, 1) := by decide +kernel
theorem d_Mo_signal_84 : decode c_Mo_signal 84 = .ok (.ishl, 1) := by decide +kernel
theorem d_Mo_signal_85 : decode c_Mo_signal 85 = .ok (.iconst 1, 1) := by decide +kernel
theorem d_Mo_signal_86 : decode c_Mo_signal 86 = .ok (.isub, 1) := by decide +kernel
theorem d_Mo_signal_87 : decode c_Mo_signal 87 = .ok (.invokestatic 91, 3) := by decide +kernel
theorem d_Mo_signal_90 : decode c_Mo_signal 90 = .ok (.ifCond .ne 5, 3) := by decide +kernel
theorem d_Mo_signal_93 : decode c_Mo_signal 93 = .ok (.iconst (-1), 1) := by decide +kernel
theorem d_Mo_signal_94 : decode c_Mo_signal 94 = .ok (.ireturn, 1) := by decide +kernel
theorem d_Mo_signal_95 : decode c_Mo_signal 95 = .ok (.iload_n 2, 1) := by decide +kernel
theorem d_Mo_signal_96 : decode c_Mo_signal 96 = .ok (.istore 6, 2) := by decide +kernel
theorem d_Mo_signal_98 : decode c_Mo_signal 98 = .ok (.iload 6, 2) := by decide +kernel
theorem d_Mo_signal_100 : decode c_Mo_signal 100 = .ok (.iload_n 2, 1) := by decide +kernel
theorem d_Mo_signal_101 : decode c_Mo_signal 101 = .ok (.iload_n 3, 1) := by decide +kernel
theorem d_Mo_signal_102 : decode c_Mo_signal 102 = .ok (.iadd, 1) := by decide +kernel
theorem d_Mo_signal_103 : decode c_Mo_signal 103 = .ok (.if_icmp .ge 21, 3) := by decide +kernel
theorem d_Mo_signal_106 : decode c_Mo_signal 106 = .ok (.aload_n 0, 1) := by decide +kernel
theorem d_Mo_signal_107 : decode c_Mo_signal 107 = .ok (.iload_n 1, 1) := by decide +kernel
theorem d_Mo_signal_108 : decode c_Mo_signal 108 = .ok (.iload 6, 2) := by decide +kernel
theorem d_Mo_signal_110 : decode c_Mo_signal 110 = .ok (.invokevirtual 106, 3) := by decide +kernel
theorem d_Mo_signal_113 : decode c_Mo_signal 113 = .ok (.ifCond .eq 5, 3) := by decide +kernel
theorem d_Mo_signal_116 : decode c_Mo_signal 116 = .ok (.iconst (-1), 1) := by decide +kernel
theorem d_Mo_signal_117 : decode c_Mo_signal 117 = .ok (.ireturn, 1) := by decide +kernel
theorem d_Mo_signal_118 : decode c_Mo_signal 118 = .ok (.iinc 6 1, 3) := by decide +kernel
theorem d_Mo_signal_121 : decode c_Mo_signal 121 = .ok (.goto (-23), 3) := by decide +kernel
theorem d_Mo_signal_124 : decode c_Mo_signal 124 = .ok (.aload_n 0, 1) := by decide +kernel
theorem d_Mo_signal_125 : decode c_Mo_signal 125 = .ok (.getfield 29, 3) := by decide +kernel
theorem d_Mo_signal_128 : decode c_Mo_signal 128 = .ok (.aload_n 0, 1) := by decide +kernel
theorem d_Mo_signal_129 : decode c_Mo_signal 129 = .ok (.getfield 99, 3) := by decide +kernel
theorem d_Mo_signal_132 : decode c_Mo_signal 132 = .ok (.iload_n 1, 1) := by decide +kernel
theorem d_Mo_signal_133 : decode c_Mo_signal 133 = .ok (.iastore, 1) := by decide +kernel
theorem d_Mo_signal_134 : decode c_Mo_signal 134 = .ok (.aload_n 0, 1) := by decide +kernel
theorem d_Mo_signal_135 : decode c_Mo_signal 135 = .ok (.getfield 32, 3) := by decide +kernel
theorem d_Mo_signal_138 : decode c_Mo_signal 138 = .ok (.aload_n 0, 1) := by decide +kernel
theorem d_Mo_signal_139 : decode c_Mo_signal 139 = .ok (.getfield 99, 3) := by decide +kernel
theorem d_Mo_signal_142 : decode c_Mo_signal 142 = .ok (.iload_n 2, 1) := by decide +kernel
theorem d_Mo_signal_143 : decode c_Mo_signal 143 = .ok (.iastore, 1) := by decide +kernel
theorem d_Mo_signal_144 : decode c_Mo_signal 144 = .ok (.aload_n 0, 1) := by decide +kernel
theorem d_Mo_signal_145 : decode c_Mo_signal 145 = .ok (.getfield 35, 3) := by decide +kernel
theorem d_Mo_signal_148 : decode c_Mo_signal 148 = .ok (.aload_n 0, 1) := by decide +kernel
theorem d_Mo_signal_149 : decode c_Mo_signal 149 = .ok (.getfield 99, 3) := by decide +kernel
theorem d_Mo_signal_152 : decode c_Mo_signal 152 = .ok (.iload_n 3, 1) := by decide +kernel
theorem d_Mo_signal_153 : decode c_Mo_signal 153 = .ok (.iastore, 1) := by decide +kernel
theorem d_Mo_signal_154 : decode c_Mo_signal 154 = .ok (.aload_n 0, 1) := by decide +kernel
theorem d_Mo_signal_155 : decode c_Mo_signal 155 = .ok (.getfield 38, 3) := by decide +kernel
theorem d_Mo_signal_158 : decode c_Mo_signal 158 = .ok (.aload_n 0, 1) := by decide +kernel
theorem d_Mo_signal_159 : decode c_Mo_signal 159 = .ok (.getfield 99, 3) := by decide +kernel
theorem d_Mo_signal_162 : decode c_Mo_signal 162 = .ok (.iload 4, 2) := by decide +kernel
theorem d_Mo_signal_164 : decode c_Mo_signal 164 = .ok (.iastore, 1) := by decide +kernel
theorem d_Mo_signal_165 : decode c_Mo_signal 165 = .ok (.aload_n 0, 1) := by decide +kernel
theorem d_Mo_signal_166 : decode c_Mo_signal 166 = .ok (.getfield 41, 3) := by decide +kernel
theorem d_Mo_signal_169 : decode c_Mo_signal 169 = .ok (.aload_n 0, 1) := by decide +kernel
theorem d_Mo_signal_170 : decode c_Mo_signal 170 = .ok (.getfield 99, 3) := by decide +kernel
theorem d_Mo_signal_173 : decode c_Mo_signal 173 = .ok (.iload 4, 2) := by decide +kernel
theorem d_Mo_signal_175 : decode c_Mo_signal 175 = .ok (.iastore, 1) := by decide +kernel
theorem d_Mo_signal_176 : decode c_Mo_signal 176 = .ok (.aload_n 0, 1) := by decide +kernel
theorem d_Mo_signal_177 : decode c_Mo_signal 177 = .ok (.dup, 1) := by decide +kernel
theorem d_Mo_signal_178 : decode c_Mo_signal 178 = .ok (.getfield 99, 3) := by decide +kernel
theorem d_Mo_signal_181 : decode c_Mo_signal 181 = .ok (.iconst 1, 1) := by decide +kernel
theorem d_Mo_signal_182 : decode c_Mo_signal 182 = .ok (.iadd, 1) := by decide +kernel
theorem d_Mo_signal_183 : decode c_Mo_signal 183 = .ok (.putfield 99, 3) := by decide +kernel
theorem d_Mo_signal_186 : decode c_Mo_signal 186 = .ok (.aload_n 0, 1) := by decide +kernel
theorem d_Mo_signal_187 : decode c_Mo_signal 187 = .ok (.getfield 99, 3) := by decide +kernel
theorem d_Mo_signal_190 : decode c_Mo_signal 190 = .ok (.iconst 1, 1) := by decide +kernel
theorem d_Mo_signal_191 : decode c_Mo_signal 191 = .ok (.isub, 1) := by decide +kernel
theorem d_Mo_signal_192 : decode c_Mo_signal 192 = .ok (.ireturn, 1) := by decide +kernel
def t_Mo_signal (zz : Nat × Nat) : List (Nat × mx_O) := [(0, o_aload 1 0),
  (1, o_get 10 24),
  (4, o_if 40 (fun x => ¬ x = 0)),
  (7, o_aload 1 0),
  (8, o_get 10 7),
  (11, o_push 2 (.int 16)),
  (13, o_icmp 40 (fun x y => x = y)),
  (16, o_iload 1 1),
  (17, o_push 1 (.int 0)),
  (18, o_aload 1 0),
  (19, o_get 10 0),
  (22, o_push 1 (.int 1)),
  (23, o_ii (fun x y => x - y)),
  (24, o_call 0 0 3 0 0 (fun _ _ => True) (S_Mo_within zz)),
  (27, o_if 40 (fun x => x = 0)),
  (30, o_iload 1 3),
  (31, o_push 1 (.int 1)),
  (32, o_push 2 (.int 16)),
  (34, o_call 0 0 3 0 0 (fun _ _ => True) (S_Mo_within zz)),
  (37, o_if 42 (fun x => ¬ x = 0)),
  (40, o_push 1 (.int (-1))),
  (41, o_iret),
  (42, o_aload 1 0),
  (43, o_get 10 6),
  (46, o_iload 1 1),
  (47, o_iald .int),
  (48, o_if 56 (fun x => x ≤ 0)),
  (51, o_push 2 (.int 8)),
  (53, o_goto 57),
  (56, o_push 1 (.int 0)),
  (57, o_istore 2 5),
  (59, o_iload 1 2),
  (60, o_iload 2 5),
  (62, o_push 2 (.int 8)),
  (64, o_aload 1 0),
  (65, o_get 10 3),
  (68, o_iload 1 1),
  (69, o_iald .int),
  (70, o_ii (fun x y => x * y)),
  (71, o_iload 1 3),
  (72, o_ii (fun x y => x - y)),
  (73, o_call 0 0 3 0 0 (fun _ _ => True) (S_Mo_within zz)),
  (76, o_if 93 (fun x => x = 0)),
  (79, o_iload 2 4),
  (81, o_push 1 (.int 0)),
  (82, o_push 1 (.int 1)),
  (83, o_iload 1 3),
  (84, o_ii (fun x y => x <<< (y &&& 31))),
  (85, o_push 1 (.int 1)),
  (86, o_ii (fun x y => x - y)),
  (87, o_call 0 0 3 0 0 (fun _ _ => True) (S_Mo_within zz)),
  (90, o_if 95 (fun x => ¬ x = 0)),
  (93, o_push 1 (.int (-1))),
  (94, o_iret),
  (95, o_iload 1 2),
  (96, o_istore 2 6),
  (98, o_iload 2 6),
  (100, o_iload 1 2),
  (101, o_iload 1 3),
  (102, o_ii (fun x y => x + y)),
  (103, o_icmp 124 (fun x y => y ≤ x)),
  (106, o_aload 1 0),
  (107, o_iload 1 1),
  (108, o_iload 2 6),
  (110, o_call 0 0 3 0 0 (mx_rv 10) (S_Mo_bitTaken zz)),
  (113, o_if 118 (fun x => x = 0)),
  (116, o_push 1 (.int (-1))),
  (117, o_iret),
  (118, o_iinc 6 1),
  (121, o_goto 98),
  (124, o_aload 1 0),
  (125, o_get 10 8),
  (128, o_aload 1 0),
  (129, o_get 10 7),
  (132, o_iload 1 1),
  (133, o_iast .int (fun x => x)),
  (134, o_aload 1 0),
  (135, o_get 10 9),
  (138, o_aload 1 0),
  (139, o_get 10 7),
  (142, o_iload 1 2),
  (143, o_iast .int (fun x => x)),
  (144, o_aload 1 0),
  (145, o_get 10 10),
  (148, o_aload 1 0),
  (149, o_get 10 7),
  (152, o_iload 1 3),
  (153, o_iast .int (fun x => x)),
  (154, o_aload 1 0),
  (155, o_get 10 11),
  (158, o_aload 1 0),
  (159, o_get 10 7),
  (162, o_iload 2 4),
  (164, o_iast .int (fun x => x)),
  (165, o_aload 1 0),
  (166, o_get 10 12),
  (169, o_aload 1 0),
  (170, o_get 10 7),
  (173, o_iload 2 4),
  (175, o_iast .int (fun x => x)),
  (176, o_aload 1 0),
  (177, o_dup),
  (178, o_get 10 7),
  (181, o_push 1 (.int 1)),
  (182, o_ii (fun x y => x + y)),
  (183, o_put 10 7 mx_vI),
  (186, o_aload 1 0),
  (187, o_get 10 7),
  (190, o_push 1 (.int 1)),
  (191, o_ii (fun x y => x - y)),
  (192, o_iret)]
set_option maxRecDepth 100000 in
theorem tm_Mo_signal (zz : Nat × Nat) : mx_All (fun _ o => mx_Mono o) (t_Mo_signal zz) := by
  refine mx_all_cons (mo_st) ?_
  refine mx_all_cons (mo_st) ?_
  refine mx_all_cons (mo_br) ?_
  refine mx_all_cons (mo_st) ?_
  refine mx_all_cons (mo_st) ?_
  refine mx_all_cons (mo_st) ?_
  refine mx_all_cons (mo_br) ?_
  refine mx_all_cons (mo_st) ?_
  refine mx_all_cons (mo_st) ?_
  refine mx_all_cons (mo_st) ?_
  refine mx_all_cons (mo_st) ?_
  refine mx_all_cons (mo_st) ?_
  refine mx_all_cons (mo_st) ?_
  refine mx_all_cons (mo_call (sm_Mo_within zz)) ?_
  refine mx_all_cons (mo_br) ?_
  refine mx_all_cons (mo_st) ?_
  refine mx_all_cons (mo_st) ?_
  refine mx_all_cons (mo_st) ?_
  refine mx_all_cons (mo_call (sm_Mo_within zz)) ?_
  refine mx_all_cons (mo_br) ?_
  refine mx_all_cons (mo_st) ?_
  refine mx_all_cons (mo_ret) ?_
  refine mx_all_cons (mo_st) ?_
  refine mx_all_cons (mo_st) ?_
  refine mx_all_cons (mo_st) ?_
  refine mx_all_cons (mo_sc) ?_
  refine mx_all_cons (mo_br) ?_
  refine mx_all_cons (mo_st) ?_
  refine mx_all_cons (mo_st) ?_
  refine mx_all_cons (mo_st) ?_
  refine mx_all_cons (mo_st) ?_
  refine mx_all_cons (mo_st) ?_
  refine mx_all_cons (mo_st) ?_
  refine mx_all_cons (mo_st) ?_
  refine mx_all_cons (mo_st) ?_
  refine mx_all_cons (mo_st) ?_
  refine mx_all_cons (mo_st) ?_
  refine mx_all_cons (mo_sc) ?_
  refine mx_all_cons (mo_st) ?_
  refine mx_all_cons (mo_st) ?_
  refine mx_all_cons (mo_st) ?_
  refine mx_all_cons (mo_call (sm_Mo_within zz)) ?_
  refine mx_all_cons (mo_br) ?_
  refine mx_all_cons (mo_st) ?_
  refine mx_all_cons (mo_st) ?_
  refine mx_all_cons (mo_st) ?_
  refine mx_all_cons (mo_st) ?_
  refine mx_all_cons (mo_st) ?_
  refine mx_all_cons (mo_st) ?_
  refine mx_all_cons (mo_st) ?_
  refine mx_all_cons (mo_call (sm_Mo_within zz)) ?_
  refine mx_all_cons (mo_br) ?_
  refine mx_all_cons (mo_st) ?_
  refine mx_all_cons (mo_ret) ?_
  refine mx_all_cons (mo_st) ?_
  refine mx_all_cons (mo_st) ?_
  refine mx_all_cons (mo_st) ?_
  refine mx_all_cons (mo_st) ?_
  refine mx_all_cons (mo_st) ?_
  refine mx_all_cons (mo_st) ?_
  refine mx_all_cons (mo_br) ?_
  refine mx_all_cons (mo_st) ?_
  refine mx_all_cons (mo_st) ?_
  refine mx_all_cons (mo_st) ?_
  refine mx_all_cons (mo_call (sm_Mo_bitTaken zz)) ?_
  refine mx_all_cons (mo_br) ?_
  refine mx_all_cons (mo_st) ?_
  refine mx_all_cons (mo_ret) ?_
  refine mx_all_cons (mo_st) ?_
  refine mx_all_cons (mo_st) ?_
  refine mx_all_cons (mo_st) ?_
  refine mx_all_cons (mo_st) ?_
  refine mx_all_cons (mo_st) ?_
  refine mx_all_cons (mo_st) ?_
  refine mx_all_cons (mo_st) ?_
  refine mx_all_cons (mo_sc) ?_
  refine mx_all_cons (mo_st) ?_
  refine mx_all_cons (mo_st) ?_
  refine mx_all_cons (mo_st) ?_
  refine mx_all_cons (mo_st) ?_
  refine mx_all_cons (mo_st) ?_
  refine mx_all_cons (mo_sc) ?_
  refine mx_all_cons (mo_st) ?_
  refine mx_all_cons (mo_st) ?_
  refine mx_all_cons (mo_st) ?_
  refine mx_all_cons (mo_st) ?_
  refine mx_all_cons (mo_st) ?_
  refine mx_all_cons (mo_sc) ?_
  refine mx_all_cons (mo_st) ?_
  refine mx_all_cons (mo_st) ?_
  refine mx_all_cons (mo_st) ?_
  refine mx_all_cons (mo_st) ?_
  refine mx_all_cons (mo_st) ?_
  refine mx_all_cons (mo_sc) ?_
  refine mx_all_cons (mo_st) ?_
  refine mx_all_cons (mo_st) ?_
  refine mx_all_cons (mo_st) ?_
  refine mx_all_cons (mo_st) ?_
  refine mx_all_cons (mo_st) ?_
  refine mx_all_cons (mo_sc) ?_
  refine mx_all_cons (mo_st) ?_
  refine mx_all_cons (mo_st) ?_
  refine mx_all_cons (mo_st) ?_
  refine mx_all_cons (mo_st) ?_
  refine mx_all_cons (mo_st) ?_
  refine mx_all_cons (mo_sc) ?_
  refine mx_all_cons (mo_st) ?_
  refine mx_all_cons (mo_st) ?_
  refine mx_all_cons (mo_st) ?_
  refine mx_all_cons (mo_st) ?_
  refine mx_all_cons (mo_ret) ?_
  exact mx_all_nil
def S_Mo_signal (zz : Nat × Nat) : mx_Sp := mx_S 7 0 0 (t_Mo_signal zz)
theorem sm_Mo_signal (zz : Nat × Nat) : mx_SMono (S_Mo_signal zz) := mx_S_mono (tm_Mo_signal zz)
abbrev rm_Mo_signal : Room := { frames := 2, cells := 0, slots := 0, locals := 46 }
set_option maxHeartbeats 4000000 in
set_option maxRecDepth 100000 in
theorem m_Mo_signal (l : Launch) (zz : Nat × Nat) : mx_Met l y_Mo_signal (wsOf y_Mo_signal c_Mo_signal 7 (some .int)) rm_Mo_signal wcl (mx_Z zz) 0 0 (S_Mo_signal zz) := by
  refine mx_met (cc := c_Mo_signal) (ret := (some .int)) (by decide) rfl ?_
  intro p e s m args below meth c D A Post X hz hr hlk hnm
  have hm : ∀ w ∈ mw, w.before args s = true := fun w h => X.1.2.2.2.2 w (List.mem_cons_of_mem _ h)
  refine mx_all_cons (ok_aload (fun hl kk => lv_aload_n X.1.1 X.1.2.1 d_Mo_signal_0 rfl hl kk) (fun hl kk => lv_aload_nN X.1.1 X.1.2.1 d_Mo_signal_0 rfl hl kk)) ?_
  refine mx_all_cons (ok_get (C := "HeaderScheduleModel") (T := T_Mo) (N := 40) X (mw_up in_Mo) rfl 24 (by decide) (hm _ w701) (fun _ h9 => h9) d_Mo_signal_1) ?_
  refine mx_all_cons (ok_if (fun kt kf => lv_if_ne X.1.1 X.1.2.1 d_Mo_signal_4 (by decide) kt (fun z => kf (fun g => g z)))) ?_
  refine mx_all_cons (ok_aload (fun hl kk => lv_aload_n X.1.1 X.1.2.1 d_Mo_signal_7 rfl hl kk) (fun hl kk => lv_aload_nN X.1.1 X.1.2.1 d_Mo_signal_7 rfl hl kk)) ?_
  refine mx_all_cons (ok_get (C := "HeaderScheduleModel") (T := T_Mo) (N := 40) X (mw_up in_Mo) rfl 7 (by decide) (hm _ w684) (fun _ h9 => h9) d_Mo_signal_8) ?_
  refine mx_all_cons (ok_push (fun kk => lv_bipush X.1.1 X.1.2.1 d_Mo_signal_11 (by decide) kk)) ?_
  refine mx_all_cons (ok_icmp (fun kt kf => lv_icmp_eq X.1.1 X.1.2.1 d_Mo_signal_13 (by decide) kt kf)) ?_
  refine mx_all_cons (ok_iload (fun hl kk => lv_iload_n X.1.1 X.1.2.1 d_Mo_signal_16 rfl hl kk)) ?_
  refine mx_all_cons (ok_push (fun kk => lv_iconst X.1.1 X.1.2.1 d_Mo_signal_17 (by decide) kk)) ?_
  refine mx_all_cons (ok_aload (fun hl kk => lv_aload_n X.1.1 X.1.2.1 d_Mo_signal_18 rfl hl kk) (fun hl kk => lv_aload_nN X.1.1 X.1.2.1 d_Mo_signal_18 rfl hl kk)) ?_
  refine mx_all_cons (ok_get (C := "HeaderScheduleModel") (T := T_Mo) (N := 40) X (mw_up in_Mo) rfl 0 (by decide) (hm _ w677) (fun _ h9 => h9) d_Mo_signal_19) ?_
  refine mx_all_cons (ok_push (fun kk => lv_iconst X.1.1 X.1.2.1 d_Mo_signal_22 (by decide) kk)) ?_
  refine mx_all_cons (ok_ii (fun kk => lv_isub X.1.1 X.1.2.1 d_Mo_signal_23 kk)) ?_
  refine mx_all_cons (ok_callS X (mx_Zok_Z zz) hz ⟨(Nat.le_of_ble_eq_true rfl), (Nat.le_of_ble_eq_true rfl)⟩ (m_Mo_within l zz) ⟨mx_cwB 3 hm w804 w802 w40 rfl rfl (by decide +kernel) ⟨(Nat.le_of_ble_eq_true rfl), (Nat.le_of_ble_eq_true rfl)⟩, (hm _ w803)⟩ d_Mo_signal_24) ?_
  refine mx_all_cons (ok_if (fun kt kf => lv_if_eq X.1.1 X.1.2.1 d_Mo_signal_27 (by decide) kt kf)) ?_
  refine mx_all_cons (ok_iload (fun hl kk => lv_iload_n X.1.1 X.1.2.1 d_Mo_signal_30 rfl hl kk)) ?_
  refine mx_all_cons (ok_push (fun kk => lv_iconst X.1.1 X.1.2.1 d_Mo_signal_31 (by decide) kk)) ?_
  refine mx_all_cons (ok_push (fun kk => lv_bipush X.1.1 X.1.2.1 d_Mo_signal_32 (by decide) kk)) ?_
  refine mx_all_cons (ok_callS X (mx_Zok_Z zz) hz ⟨(Nat.le_of_ble_eq_true rfl), (Nat.le_of_ble_eq_true rfl)⟩ (m_Mo_within l zz) ⟨mx_cwB 3 hm w804 w802 w40 rfl rfl (by decide +kernel) ⟨(Nat.le_of_ble_eq_true rfl), (Nat.le_of_ble_eq_true rfl)⟩, (hm _ w803)⟩ d_Mo_signal_34) ?_
  refine mx_all_cons (ok_if (fun kt kf => lv_if_ne X.1.1 X.1.2.1 d_Mo_signal_37 (by decide) kt (fun z => kf (fun g => g z)))) ?_
  refine mx_all_cons (ok_push (fun kk => lv_iconst X.1.1 X.1.2.1 d_Mo_signal_40 (by decide) kk)) ?_
  refine mx_all_cons (ok_iret X hr hlk d_Mo_signal_41) ?_
  refine mx_all_cons (ok_aload (fun hl kk => lv_aload_n X.1.1 X.1.2.1 d_Mo_signal_42 rfl hl kk) (fun hl kk => lv_aload_nN X.1.1 X.1.2.1 d_Mo_signal_42 rfl hl kk)) ?_
  refine mx_all_cons (ok_get (C := "HeaderScheduleModel") (T := T_Mo) (N := 40) X (mw_up in_Mo) rfl 6 (by decide) (hm _ w683) (fun _ h9 => h9) d_Mo_signal_43) ?_
  refine mx_all_cons (ok_iload (fun hl kk => lv_iload_n X.1.1 X.1.2.1 d_Mo_signal_46 rfl hl kk)) ?_
  refine mx_all_cons (ok_iald X d_Mo_signal_47) ?_
  refine mx_all_cons (ok_if (fun kt kf => lv_if_le X.1.1 X.1.2.1 d_Mo_signal_48 (by decide) kt kf)) ?_
  refine mx_all_cons (ok_push (fun kk => lv_bipush X.1.1 X.1.2.1 d_Mo_signal_51 (by decide) kk)) ?_
  refine mx_all_cons (ok_goto X d_Mo_signal_53 (by decide)) ?_
  refine mx_all_cons (ok_push (fun kk => lv_iconst X.1.1 X.1.2.1 d_Mo_signal_56 (by decide) kk)) ?_
  refine mx_all_cons (ok_istore (fun hl kk => lv_istore X.1.1 X.1.2.1 d_Mo_signal_57 hl (by decide) rfl kk)) ?_
  refine mx_all_cons (ok_iload (fun hl kk => lv_iload_n X.1.1 X.1.2.1 d_Mo_signal_59 rfl hl kk)) ?_
  refine mx_all_cons (ok_iload (fun hl kk => lv_iload X.1.1 X.1.2.1 d_Mo_signal_60 hl kk)) ?_
  refine mx_all_cons (ok_push (fun kk => lv_bipush X.1.1 X.1.2.1 d_Mo_signal_62 (by decide) kk)) ?_
  refine mx_all_cons (ok_aload (fun hl kk => lv_aload_n X.1.1 X.1.2.1 d_Mo_signal_64 rfl hl kk) (fun hl kk => lv_aload_nN X.1.1 X.1.2.1 d_Mo_signal_64 rfl hl kk)) ?_
  refine mx_all_cons (ok_get (C := "HeaderScheduleModel") (T := T_Mo) (N := 40) X (mw_up in_Mo) rfl 3 (by decide) (hm _ w680) (fun _ h9 => h9) d_Mo_signal_65) ?_
  refine mx_all_cons (ok_iload (fun hl kk => lv_iload_n X.1.1 X.1.2.1 d_Mo_signal_68 rfl hl kk)) ?_
  refine mx_all_cons (ok_iald X d_Mo_signal_69) ?_
  refine mx_all_cons (ok_ii (fun kk => lv_imul X.1.1 X.1.2.1 d_Mo_signal_70 kk)) ?_
  refine mx_all_cons (ok_iload (fun hl kk => lv_iload_n X.1.1 X.1.2.1 d_Mo_signal_71 rfl hl kk)) ?_
  refine mx_all_cons (ok_ii (fun kk => lv_isub X.1.1 X.1.2.1 d_Mo_signal_72 kk)) ?_
  refine mx_all_cons (ok_callS X (mx_Zok_Z zz) hz ⟨(Nat.le_of_ble_eq_true rfl), (Nat.le_of_ble_eq_true rfl)⟩ (m_Mo_within l zz) ⟨mx_cwB 3 hm w804 w802 w40 rfl rfl (by decide +kernel) ⟨(Nat.le_of_ble_eq_true rfl), (Nat.le_of_ble_eq_true rfl)⟩, (hm _ w803)⟩ d_Mo_signal_73) ?_
  refine mx_all_cons (ok_if (fun kt kf => lv_if_eq X.1.1 X.1.2.1 d_Mo_signal_76 (by decide) kt kf)) ?_
  refine mx_all_cons (ok_iload (fun hl kk => lv_iload X.1.1 X.1.2.1 d_Mo_signal_79 hl kk)) ?_
  refine mx_all_cons (ok_push (fun kk => lv_iconst X.1.1 X.1.2.1 d_Mo_signal_81 (by decide) kk)) ?_
  refine mx_all_cons (ok_push (fun kk => lv_iconst X.1.1 X.1.2.1 d_Mo_signal_82 (by decide) kk)) ?_
  refine mx_all_cons (ok_iload (fun hl kk => lv_iload_n X.1.1 X.1.2.1 d_Mo_signal_83 rfl hl kk)) ?_
  refine mx_all_cons (ok_ii (fun kk => lv_ishl X.1.1 X.1.2.1 d_Mo_signal_84 kk)) ?_
  refine mx_all_cons (ok_push (fun kk => lv_iconst X.1.1 X.1.2.1 d_Mo_signal_85 (by decide) kk)) ?_
  refine mx_all_cons (ok_ii (fun kk => lv_isub X.1.1 X.1.2.1 d_Mo_signal_86 kk)) ?_
  refine mx_all_cons (ok_callS X (mx_Zok_Z zz) hz ⟨(Nat.le_of_ble_eq_true rfl), (Nat.le_of_ble_eq_true rfl)⟩ (m_Mo_within l zz) ⟨mx_cwB 3 hm w804 w802 w40 rfl rfl (by decide +kernel) ⟨(Nat.le_of_ble_eq_true rfl), (Nat.le_of_ble_eq_true rfl)⟩, (hm _ w803)⟩ d_Mo_signal_87) ?_
  refine mx_all_cons (ok_if (fun kt kf => lv_if_ne X.1.1 X.1.2.1 d_Mo_signal_90 (by decide) kt (fun z => kf (fun g => g z)))) ?_
  refine mx_all_cons (ok_push (fun kk => lv_iconst X.1.1 X.1.2.1 d_Mo_signal_93 (by decide) kk)) ?_
  refine mx_all_cons (ok_iret X hr hlk d_Mo_signal_94) ?_
  refine mx_all_cons (ok_iload (fun hl kk => lv_iload_n X.1.1 X.1.2.1 d_Mo_signal_95 rfl hl kk)) ?_
  refine mx_all_cons (ok_istore (fun hl kk => lv_istore X.1.1 X.1.2.1 d_Mo_signal_96 hl (by decide) rfl kk)) ?_
  refine mx_all_cons (ok_iload (fun hl kk => lv_iload X.1.1 X.1.2.1 d_Mo_signal_98 hl kk)) ?_
  refine mx_all_cons (ok_iload (fun hl kk => lv_iload_n X.1.1 X.1.2.1 d_Mo_signal_100 rfl hl kk)) ?_
  refine mx_all_cons (ok_iload (fun hl kk => lv_iload_n X.1.1 X.1.2.1 d_Mo_signal_101 rfl hl kk)) ?_
  refine mx_all_cons (ok_ii (fun kk => lv_iadd X.1.1 X.1.2.1 d_Mo_signal_102 kk)) ?_
  refine mx_all_cons (ok_icmp (fun kt kf => lv_icmp_ge X.1.1 X.1.2.1 d_Mo_signal_103 (by decide) kt kf)) ?_
  refine mx_all_cons (ok_aload (fun hl kk => lv_aload_n X.1.1 X.1.2.1 d_Mo_signal_106 rfl hl kk) (fun hl kk => lv_aload_nN X.1.1 X.1.2.1 d_Mo_signal_106 rfl hl kk)) ?_
  refine mx_all_cons (ok_iload (fun hl kk => lv_iload_n X.1.1 X.1.2.1 d_Mo_signal_107 rfl hl kk)) ?_
  refine mx_all_cons (ok_iload (fun hl kk => lv_iload X.1.1 X.1.2.1 d_Mo_signal_108 hl kk)) ?_
  refine mx_all_cons (ok_callV (C := "HeaderScheduleModel") (T := T_Mo) (N := 40) X (mx_Zok_Z zz) hz ⟨(Nat.le_of_ble_eq_true rfl), (Nat.le_of_ble_eq_true rfl)⟩ (m_Mo_bitTaken l zz) ⟨mx_cwB 2 hm w816 w813 w40 rfl rfl (by decide +kernel) ⟨(Nat.le_of_ble_eq_true rfl), (Nat.le_of_ble_eq_true rfl)⟩, (hm _ w815), hm _ w17⟩ rfl d_Mo_signal_110) ?_
  refine mx_all_cons (ok_if (fun kt kf => lv_if_eq X.1.1 X.1.2.1 d_Mo_signal_113 (by decide) kt kf)) ?_
  refine mx_all_cons (ok_push (fun kk => lv_iconst X.1.1 X.1.2.1 d_Mo_signal_116 (by decide) kk)) ?_
  refine mx_all_cons (ok_iret X hr hlk d_Mo_signal_117) ?_
  refine mx_all_cons (ok_iinc X (by decide) (by decide) d_Mo_signal_118) ?_
  refine mx_all_cons (ok_goto X d_Mo_signal_121 (by decide)) ?_
  refine mx_all_cons (ok_aload (fun hl kk => lv_aload_n X.1.1 X.1.2.1 d_Mo_signal_124 rfl hl kk) (fun hl kk => lv_aload_nN X.1.1 X.1.2.1 d_Mo_signal_124 rfl hl kk)) ?_
  refine mx_all_cons (ok_get (C := "HeaderScheduleModel") (T := T_Mo) (N := 40) X (mw_up in_Mo) rfl 8 (by decide) (hm _ w685) (fun _ h9 => h9) d_Mo_signal_125) ?_
  refine mx_all_cons (ok_aload (fun hl kk => lv_aload_n X.1.1 X.1.2.1 d_Mo_signal_128 rfl hl kk) (fun hl kk => lv_aload_nN X.1.1 X.1.2.1 d_Mo_signal_128 rfl hl kk)) ?_
  refine mx_all_cons (ok_get (C := "HeaderScheduleModel") (T := T_Mo) (N := 40) X (mw_up in_Mo) rfl 7 (by decide) (hm _ w684) (fun _ h9 => h9) d_Mo_signal_129) ?_
  refine mx_all_cons (ok_iload (fun hl kk => lv_iload_n X.1.1 X.1.2.1 d_Mo_signal_132 rfl hl kk)) ?_
  refine mx_all_cons (ok_iast X d_Mo_signal_133) ?_
  refine mx_all_cons (ok_aload (fun hl kk => lv_aload_n X.1.1 X.1.2.1 d_Mo_signal_134 rfl hl kk) (fun hl kk => lv_aload_nN X.1.1 X.1.2.1 d_Mo_signal_134 rfl hl kk)) ?_
  refine mx_all_cons (ok_get (C := "HeaderScheduleModel") (T := T_Mo) (N := 40) X (mw_up in_Mo) rfl 9 (by decide) (hm _ w686) (fun _ h9 => h9) d_Mo_signal_135) ?_
  refine mx_all_cons (ok_aload (fun hl kk => lv_aload_n X.1.1 X.1.2.1 d_Mo_signal_138 rfl hl kk) (fun hl kk => lv_aload_nN X.1.1 X.1.2.1 d_Mo_signal_138 rfl hl kk)) ?_
  refine mx_all_cons (ok_get (C := "HeaderScheduleModel") (T := T_Mo) (N := 40) X (mw_up in_Mo) rfl 7 (by decide) (hm _ w684) (fun _ h9 => h9) d_Mo_signal_139) ?_
  refine mx_all_cons (ok_iload (fun hl kk => lv_iload_n X.1.1 X.1.2.1 d_Mo_signal_142 rfl hl kk)) ?_
  refine mx_all_cons (ok_iast X d_Mo_signal_143) ?_
  refine mx_all_cons (ok_aload (fun hl kk => lv_aload_n X.1.1 X.1.2.1 d_Mo_signal_144 rfl hl kk) (fun hl kk => lv_aload_nN X.1.1 X.1.2.1 d_Mo_signal_144 rfl hl kk)) ?_
  refine mx_all_cons (ok_get (C := "HeaderScheduleModel") (T := T_Mo) (N := 40) X (mw_up in_Mo) rfl 10 (by decide) (hm _ w687) (fun _ h9 => h9) d_Mo_signal_145) ?_
  refine mx_all_cons (ok_aload (fun hl kk => lv_aload_n X.1.1 X.1.2.1 d_Mo_signal_148 rfl hl kk) (fun hl kk => lv_aload_nN X.1.1 X.1.2.1 d_Mo_signal_148 rfl hl kk)) ?_
  refine mx_all_cons (ok_get (C := "HeaderScheduleModel") (T := T_Mo) (N := 40) X (mw_up in_Mo) rfl 7 (by decide) (hm _ w684) (fun _ h9 => h9) d_Mo_signal_149) ?_
  refine mx_all_cons (ok_iload (fun hl kk => lv_iload_n X.1.1 X.1.2.1 d_Mo_signal_152 rfl hl kk)) ?_
  refine mx_all_cons (ok_iast X d_Mo_signal_153) ?_
  refine mx_all_cons (ok_aload (fun hl kk => lv_aload_n X.1.1 X.1.2.1 d_Mo_signal_154 rfl hl kk) (fun hl kk => lv_aload_nN X.1.1 X.1.2.1 d_Mo_signal_154 rfl hl kk)) ?_
  refine mx_all_cons (ok_get (C := "HeaderScheduleModel") (T := T_Mo) (N := 40) X (mw_up in_Mo) rfl 11 (by decide) (hm _ w688) (fun _ h9 => h9) d_Mo_signal_155) ?_
  refine mx_all_cons (ok_aload (fun hl kk => lv_aload_n X.1.1 X.1.2.1 d_Mo_signal_158 rfl hl kk) (fun hl kk => lv_aload_nN X.1.1 X.1.2.1 d_Mo_signal_158 rfl hl kk)) ?_
  refine mx_all_cons (ok_get (C := "HeaderScheduleModel") (T := T_Mo) (N := 40) X (mw_up in_Mo) rfl 7 (by decide) (hm _ w684) (fun _ h9 => h9) d_Mo_signal_159) ?_
  refine mx_all_cons (ok_iload (fun hl kk => lv_iload X.1.1 X.1.2.1 d_Mo_signal_162 hl kk)) ?_
  refine mx_all_cons (ok_iast X d_Mo_signal_164) ?_
  refine mx_all_cons (ok_aload (fun hl kk => lv_aload_n X.1.1 X.1.2.1 d_Mo_signal_165 rfl hl kk) (fun hl kk => lv_aload_nN X.1.1 X.1.2.1 d_Mo_signal_165 rfl hl kk)) ?_
  refine mx_all_cons (ok_get (C := "HeaderScheduleModel") (T := T_Mo) (N := 40) X (mw_up in_Mo) rfl 12 (by decide) (hm _ w689) (fun _ h9 => h9) d_Mo_signal_166) ?_
  refine mx_all_cons (ok_aload (fun hl kk => lv_aload_n X.1.1 X.1.2.1 d_Mo_signal_169 rfl hl kk) (fun hl kk => lv_aload_nN X.1.1 X.1.2.1 d_Mo_signal_169 rfl hl kk)) ?_
  refine mx_all_cons (ok_get (C := "HeaderScheduleModel") (T := T_Mo) (N := 40) X (mw_up in_Mo) rfl 7 (by decide) (hm _ w684) (fun _ h9 => h9) d_Mo_signal_170) ?_
  refine mx_all_cons (ok_iload (fun hl kk => lv_iload X.1.1 X.1.2.1 d_Mo_signal_173 hl kk)) ?_
  refine mx_all_cons (ok_iast X d_Mo_signal_175) ?_
  refine mx_all_cons (ok_aload (fun hl kk => lv_aload_n X.1.1 X.1.2.1 d_Mo_signal_176 rfl hl kk) (fun hl kk => lv_aload_nN X.1.1 X.1.2.1 d_Mo_signal_176 rfl hl kk)) ?_
  refine mx_all_cons (ok_dup X d_Mo_signal_177) ?_
  refine mx_all_cons (ok_get (C := "HeaderScheduleModel") (T := T_Mo) (N := 40) X (mw_up in_Mo) rfl 7 (by decide) (hm _ w684) (fun _ h9 => h9) d_Mo_signal_178) ?_
  refine mx_all_cons (ok_push (fun kk => lv_iconst X.1.1 X.1.2.1 d_Mo_signal_181 (by decide) kk)) ?_
  refine mx_all_cons (ok_ii (fun kk => lv_iadd X.1.1 X.1.2.1 d_Mo_signal_182 kk)) ?_
  refine mx_all_cons (ok_put (C := "HeaderScheduleModel") (T := T_Mo) (N := 40) X (mw_up in_Mo) ty_Mo tyok_Mo nm_Mo rfl 7 (by decide) (hm _ w684) (fun _ h9 => h9) rfl (tyok_Mo 7 (by decide)) mx_vI_ok d_Mo_signal_183) ?_
  refine mx_all_cons (ok_aload (fun hl kk => lv_aload_n X.1.1 X.1.2.1 d_Mo_signal_186 rfl hl kk) (fun hl kk => lv_aload_nN X.1.1 X.1.2.1 d_Mo_signal_186 rfl hl kk)) ?_
  refine mx_all_cons (ok_get (C := "HeaderScheduleModel") (T := T_Mo) (N := 40) X (mw_up in_Mo) rfl 7 (by decide) (hm _ w684) (fun _ h9 => h9) d_Mo_signal_187) ?_
  refine mx_all_cons (ok_push (fun kk => lv_iconst X.1.1 X.1.2.1 d_Mo_signal_190 (by decide) kk)) ?_
  refine mx_all_cons (ok_ii (fun kk => lv_isub X.1.1 X.1.2.1 d_Mo_signal_191 kk)) ?_
  refine mx_all_cons (ok_iret X hr hlk d_Mo_signal_192) ?_
  exact mx_all_nil
theorem st_Mo_signal_0 (zz : Nat × Nat) (r : mx_T) (ls : mx_L) (st : List Value) (h : mx_H) (c n : Nat) : mx_G r (t_Mo_signal zz) 0 ls st h c n = (o_aload 1 0) r (mx_G r (t_Mo_signal zz)) 0 ls st h c n := mx_G_eq (tm_Mo_signal zz) r 0 ls st h c n
theorem st_Mo_signal_1 (zz : Nat × Nat) (r : mx_T) (ls : mx_L) (st : List Value) (h : mx_H) (c n : Nat) : mx_G r (t_Mo_signal zz) 1 ls st h c n = (o_get 10 24) r (mx_G r (t_Mo_signal zz)) 1 ls st h c n := mx_G_eq (tm_Mo_signal zz) r 1 ls st h c n
theorem st_Mo_signal_4 (zz : Nat × Nat) (r : mx_T) (ls : mx_L) (st : List Value) (h : mx_H) (c n : Nat) : mx_G r (t_Mo_signal zz) 4 ls st h c n = (o_if 40 (fun x => ¬ x = 0)) r (mx_G r (t_Mo_signal zz)) 4 ls st h c n := mx_G_eq (tm_Mo_signal zz) r 4 ls st h c n
theorem st_Mo_signal_7 (zz : Nat × Nat) (r : mx_T) (ls : mx_L) (st : List Value) (h : mx_H) (c n : Nat) : mx_G r (t_Mo_signal zz) 7 ls st h c n = (o_aload 1 0) r (mx_G r (t_Mo_signal zz)) 7 ls st h c n := mx_G_eq (tm_Mo_signal zz) r 7 ls st h c n
theorem st_Mo_signal_8 (zz : Nat × Nat) (r : mx_T) (ls : mx_L) (st : List Value) (h : mx_H) (c n : Nat) : mx_G r (t_Mo_signal zz) 8 ls st h c n = (o_get 10 7) r (mx_G r (t_Mo_signal zz)) 8 ls st h c n := mx_G_eq (tm_Mo_signal zz) r 8 ls st h c n
theorem st_Mo_signal_11 (zz : Nat × Nat) (r : mx_T) (ls : mx_L) (st : List Value) (h : mx_H) (c n : Nat) : mx_G r (t_Mo_signal zz) 11 ls st h c n = (o_push 2 (.int 16)) r (mx_G r (t_Mo_signal zz)) 11 ls st h c n := mx_G_eq (tm_Mo_signal zz) r 11 ls st h c n
theorem st_Mo_signal_13 (zz : Nat × Nat) (r : mx_T) (ls : mx_L) (st : List Value) (h : mx_H) (c n : Nat) : mx_G r (t_Mo_signal zz) 13 ls st h c n = (o_icmp 40 (fun x y => x = y)) r (mx_G r (t_Mo_signal zz)) 13 ls st h c n := mx_G_eq (tm_Mo_signal zz) r 13 ls st h c n
theorem st_Mo_signal_16 (zz : Nat × Nat) (r : mx_T) (ls : mx_L) (st : List Value) (h : mx_H) (c n : Nat) : mx_G r (t_Mo_signal zz) 16 ls st h c n = (o_iload 1 1) r (mx_G r (t_Mo_signal zz)) 16 ls st h c n := mx_G_eq (tm_Mo_signal zz) r 16 ls st h c n
theorem st_Mo_signal_17 (zz : Nat × Nat) (r : mx_T) (ls : mx_L) (st : List Value) (h : mx_H) (c n : Nat) : mx_G r (t_Mo_signal zz) 17 ls st h c n = (o_push 1 (.int 0)) r (mx_G r (t_Mo_signal zz)) 17 ls st h c n := mx_G_eq (tm_Mo_signal zz) r 17 ls st h c n
theorem st_Mo_signal_18 (zz : Nat × Nat) (r : mx_T) (ls : mx_L) (st : List Value) (h : mx_H) (c n : Nat) : mx_G r (t_Mo_signal zz) 18 ls st h c n = (o_aload 1 0) r (mx_G r (t_Mo_signal zz)) 18 ls st h c n := mx_G_eq (tm_Mo_signal zz) r 18 ls st h c n
theorem st_Mo_signal_19 (zz : Nat × Nat) (r : mx_T) (ls : mx_L) (st : List Value) (h : mx_H) (c n : Nat) : mx_G r (t_Mo_signal zz) 19 ls st h c n = (o_get 10 0) r (mx_G r (t_Mo_signal zz)) 19 ls st h c n := mx_G_eq (tm_Mo_signal zz) r 19 ls st h c n
theorem st_Mo_signal_22 (zz : Nat × Nat) (r : mx_T) (ls : mx_L) (st : List Value) (h : mx_H) (c n : Nat) : mx_G r (t_Mo_signal zz) 22 ls st h c n = (o_push 1 (.int 1)) r (mx_G r (t_Mo_signal zz)) 22 ls st h c n := mx_G_eq (tm_Mo_signal zz) r 22 ls st h c n
theorem st_Mo_signal_23 (zz : Nat × Nat) (r : mx_T) (ls : mx_L) (st : List Value) (h : mx_H) (c n : Nat) : mx_G r (t_Mo_signal zz) 23 ls st h c n = (o_ii (fun x y => x - y)) r (mx_G r (t_Mo_signal zz)) 23 ls st h c n := mx_G_eq (tm_Mo_signal zz) r 23 ls st h c n
theorem st_Mo_signal_24 (zz : Nat × Nat) (r : mx_T) (ls : mx_L) (st : List Value) (h : mx_H) (c n : Nat) : mx_G r (t_Mo_signal zz) 24 ls st h c n = (o_call 0 0 3 0 0 (fun _ _ => True) (S_Mo_within zz)) r (mx_G r (t_Mo_signal zz)) 24 ls st h c n := mx_G_eq (tm_Mo_signal zz) r 24 ls st h c n
theorem st_Mo_signal_27 (zz : Nat × Nat) (r : mx_T) (ls : mx_L) (st : List Value) (h : mx_H) (c n : Nat) : mx_G r (t_Mo_signal zz) 27 ls st h c n = (o_if 40 (fun x => x = 0)) r (mx_G r (t_Mo_signal zz)) 27 ls st h c n := mx_G_eq (tm_Mo_signal zz) r 27 ls st h c n
theorem st_Mo_signal_30 (zz : Nat × Nat) (r : mx_T) (ls : mx_L) (st : List Value) (h : mx_H) (c n : Nat) : mx_G r (t_Mo_signal zz) 30 ls st h c n = (o_iload 1 3) r (mx_G r (t_Mo_signal zz)) 30 ls st h c n := mx_G_eq (tm_Mo_signal zz) r 30 ls st h c n
theorem st_Mo_signal_31 (zz : Nat × Nat) (r : mx_T) (ls : mx_L) (st : List Value) (h : mx_H) (c n : Nat) : mx_G r (t_Mo_signal zz) 31 ls st h c n = (o_push 1 (.int 1)) r (mx_G r (t_Mo_signal zz)) 31 ls st h c n := mx_G_eq (tm_Mo_signal zz) r 31 ls st h c n
theorem st_Mo_signal_32 (zz : Nat × Nat) (r : mx_T) (ls : mx_L) (st : List Value) (h : mx_H) (c n : Nat) : mx_G r (t_Mo_signal zz) 32 ls st h c n = (o_push 2 (.int 16)) r (mx_G r (t_Mo_signal zz)) 32 ls st h c n := mx_G_eq (tm_Mo_signal zz) r 32 ls st h c n
theorem st_Mo_signal_34 (zz : Nat × Nat) (r : mx_T) (ls : mx_L) (st : List Value) (h : mx_H) (c n : Nat) : mx_G r (t_Mo_signal zz) 34 ls st h c n = (o_call 0 0 3 0 0 (fun _ _ => True) (S_Mo_within zz)) r (mx_G r (t_Mo_signal zz)) 34 ls st h c n := mx_G_eq (tm_Mo_signal zz) r 34 ls st h c n
theorem st_Mo_signal_37 (zz : Nat × Nat) (r : mx_T) (ls : mx_L) (st : List Value) (h : mx_H) (c n : Nat) : mx_G r (t_Mo_signal zz) 37 ls st h c n = (o_if 42 (fun x => ¬ x = 0)) r (mx_G r (t_Mo_signal zz)) 37 ls st h c n := mx_G_eq (tm_Mo_signal zz) r 37 ls st h c n
theorem st_Mo_signal_40 (zz : Nat × Nat) (r : mx_T) (ls : mx_L) (st : List Value) (h : mx_H) (c n : Nat) : mx_G r (t_Mo_signal zz) 40 ls st h c n = (o_push 1 (.int (-1))) r (mx_G r (t_Mo_signal zz)) 40 ls st h c n := mx_G_eq (tm_Mo_signal zz) r 40 ls st h c n
theorem st_Mo_signal_41 (zz : Nat × Nat) (r : mx_T) (ls : mx_L) (st : List Value) (h : mx_H) (c n : Nat) : mx_G r (t_Mo_signal zz) 41 ls st h c n = (o_iret) r (mx_G r (t_Mo_signal zz)) 41 ls st h c n := mx_G_eq (tm_Mo_signal zz) r 41 ls st h c n
theorem st_Mo_signal_42 (zz : Nat × Nat) (r : mx_T) (ls : mx_L) (st : List Value) (h : mx_H) (c n : Nat) : mx_G r (t_Mo_signal zz) 42 ls st h c n = (o_aload 1 0) r (mx_G r (t_Mo_signal zz)) 42 ls st h c n := mx_G_eq (tm_Mo_signal zz) r 42 ls st h c n
theorem st_Mo_signal_43 (zz : Nat × Nat) (r : mx_T) (ls : mx_L) (st : List Value) (h : mx_H) (c n : Nat) : mx_G r (t_Mo_signal zz) 43 ls st h c n = (o_get 10 6) r (mx_G r (t_Mo_signal zz)) 43 ls st h c n := mx_G_eq (tm_Mo_signal zz) r 43 ls st h c n
theorem st_Mo_signal_46 (zz : Nat × Nat) (r : mx_T) (ls : mx_L) (st : List Value) (h : mx_H) (c n : Nat) : mx_G r (t_Mo_signal zz) 46 ls st h c n = (o_iload 1 1) r (mx_G r (t_Mo_signal zz)) 46 ls st h c n := mx_G_eq (tm_Mo_signal zz) r 46 ls st h c n
theorem st_Mo_signal_47 (zz : Nat × Nat) (r : mx_T) (ls : mx_L) (st : List Value) (h : mx_H) (c n : Nat) : mx_G r (t_Mo_signal zz) 47 ls st h c n = (o_iald .int) r (mx_G r (t_Mo_signal zz)) 47 ls st h c n := mx_G_eq (tm_Mo_signal zz) r 47 ls st h c n
theorem st_Mo_signal_48 (zz : Nat × Nat) (r : mx_T) (ls : mx_L) (st : List Value) (h : mx_H) (c n : Nat) : mx_G r (t_Mo_signal zz) 48 ls st h c n = (o_if 56 (fun x => x ≤ 0)) r (mx_G r (t_Mo_signal zz)) 48 ls st h c n := mx_G_eq (tm_Mo_signal zz) r 48 ls st h c n
theorem st_Mo_signal_51 (zz : Nat × Nat) (r : mx_T) (ls : mx_L) (st : List Value) (h : mx_H) (c n : Nat) : mx_G r (t_Mo_signal zz) 51 ls st h c n = (o_push 2 (.int 8)) r (mx_G r (t_Mo_signal zz)) 51 ls st h c n := mx_G_eq (tm_Mo_signal zz) r 51 ls st h c n
theorem st_Mo_signal_53 (zz : Nat × Nat) (r : mx_T) (ls : mx_L) (st : List Value) (h : mx_H) (c n : Nat) : mx_G r (t_Mo_signal zz) 53 ls st h c n = (o_goto 57) r (mx_G r (t_Mo_signal zz)) 53 ls st h c n := mx_G_eq (tm_Mo_signal zz) r 53 ls st h c n
theorem st_Mo_signal_56 (zz : Nat × Nat) (r : mx_T) (ls : mx_L) (st : List Value) (h : mx_H) (c n : Nat) : mx_G r (t_Mo_signal zz) 56 ls st h c n = (o_push 1 (.int 0)) r (mx_G r (t_Mo_signal zz)) 56 ls st h c n := mx_G_eq (tm_Mo_signal zz) r 56 ls st h c n
theorem st_Mo_signal_57 (zz : Nat × Nat) (r : mx_T) (ls : mx_L) (st : List Value) (h : mx_H) (c n : Nat) : mx_G r (t_Mo_signal zz) 57 ls st h c n = (o_istore 2 5) r (mx_G r (t_Mo_signal zz)) 57 ls st h c n := mx_G_eq (tm_Mo_signal zz) r 57 ls st h c n
theorem st_Mo_signal_59 (zz : Nat × Nat) (r : mx_T) (ls : mx_L) (st : List Value) (h : mx_H) (c n : Nat) : mx_G r (t_Mo_signal zz) 59 ls st h c n = (o_iload 1 2) r (mx_G r (t_Mo_signal zz)) 59 ls st h c n := mx_G_eq (tm_Mo_signal zz) r 59 ls st h c n
theorem st_Mo_signal_60 (zz : Nat × Nat) (r : mx_T) (ls : mx_L) (st : List Value) (h : mx_H) (c n : Nat) : mx_G r (t_Mo_signal zz) 60 ls st h c n = (o_iload 2 5) r (mx_G r (t_Mo_signal zz)) 60 ls st h c n := mx_G_eq (tm_Mo_signal zz) r 60 ls st h c n
theorem st_Mo_signal_62 (zz : Nat × Nat) (r : mx_T) (ls : mx_L) (st : List Value) (h : mx_H) (c n : Nat) : mx_G r (t_Mo_signal zz) 62 ls st h c n = (o_push 2 (.int 8)) r (mx_G r (t_Mo_signal zz)) 62 ls st h c n := mx_G_eq (tm_Mo_signal zz) r 62 ls st h c n
theorem st_Mo_signal_64 (zz : Nat × Nat) (r : mx_T) (ls : mx_L) (st : List Value) (h : mx_H) (c n : Nat) : mx_G r (t_Mo_signal zz) 64 ls st h c n = (o_aload 1 0) r (mx_G r (t_Mo_signal zz)) 64 ls st h c n := mx_G_eq (tm_Mo_signal zz) r 64 ls st h c n
theorem st_Mo_signal_65 (zz : Nat × Nat) (r : mx_T) (ls : mx_L) (st : List Value) (h : mx_H) (c n : Nat) : mx_G r (t_Mo_signal zz) 65 ls st h c n = (o_get 10 3) r (mx_G r (t_Mo_signal zz)) 65 ls st h c n := mx_G_eq (tm_Mo_signal zz) r 65 ls st h c n
theorem st_Mo_signal_68 (zz : Nat × Nat) (r : mx_T) (ls : mx_L) (st : List Value) (h : mx_H) (c n : Nat) : mx_G r (t_Mo_signal zz) 68 ls st h c n = (o_iload 1 1) r (mx_G r (t_Mo_signal zz)) 68 ls st h c n := mx_G_eq (tm_Mo_signal zz) r 68 ls st h c n
theorem st_Mo_signal_69 (zz : Nat × Nat) (r : mx_T) (ls : mx_L) (st : List Value) (h : mx_H) (c n : Nat) : mx_G r (t_Mo_signal zz) 69 ls st h c n = (o_iald .int) r (mx_G r (t_Mo_signal zz)) 69 ls st h c n := mx_G_eq (tm_Mo_signal zz) r 69 ls st h c n
theorem st_Mo_signal_70 (zz : Nat × Nat) (r : mx_T) (ls : mx_L) (st : List Value) (h : mx_H) (c n : Nat) : mx_G r (t_Mo_signal zz) 70 ls st h c n = (o_ii (fun x y => x * y)) r (mx_G r (t_Mo_signal zz)) 70 ls st h c n := mx_G_eq (tm_Mo_signal zz) r 70 ls st h c n
theorem st_Mo_signal_71 (zz : Nat × Nat) (r : mx_T) (ls : mx_L) (st : List Value) (h : mx_H) (c n : Nat) : mx_G r (t_Mo_signal zz) 71 ls st h c n = (o_iload 1 3) r (mx_G r (t_Mo_signal zz)) 71 ls st h c n := mx_G_eq (tm_Mo_signal zz) r 71 ls st h c n
theorem st_Mo_signal_72 (zz : Nat × Nat) (r : mx_T) (ls : mx_L) (st : List Value) (h : mx_H) (c n : Nat) : mx_G r (t_Mo_signal zz) 72 ls st h c n = (o_ii (fun x y => x - y)) r (mx_G r (t_Mo_signal zz)) 72 ls st h c n := mx_G_eq (tm_Mo_signal zz) r 72 ls st h c n
theorem st_Mo_signal_73 (zz : Nat × Nat) (r : mx_T) (ls : mx_L) (st : List Value) (h : mx_H) (c n : Nat) : mx_G r (t_Mo_signal zz) 73 ls st h c n = (o_call 0 0 3 0 0 (fun _ _ => True) (S_Mo_within zz)) r (mx_G r (t_Mo_signal zz)) 73 ls st h c n := mx_G_eq (tm_Mo_signal zz) r 73 ls st h c n
theorem st_Mo_signal_76 (zz : Nat × Nat) (r : mx_T) (ls : mx_L) (st : List Value) (h : mx_H) (c n : Nat) : mx_G r (t_Mo_signal zz) 76 ls st h c n = (o_if 93 (fun x => x = 0)) r (mx_G r (t_Mo_signal zz)) 76 ls st h c n := mx_G_eq (tm_Mo_signal zz) r 76 ls st h c n
theorem st_Mo_signal_79 (zz : Nat × Nat) (r : mx_T) (ls : mx_L) (st : List Value) (h : mx_H) (c n : Nat) : mx_G r (t_Mo_signal zz) 79 ls st h c n = (o_iload 2 4) r (mx_G r (t_Mo_signal zz)) 79 ls st h c n := mx_G_eq (tm_Mo_signal zz) r 79 ls st h c n
theorem st_Mo_signal_81 (zz : Nat × Nat) (r : mx_T) (ls : mx_L) (st : List Value) (h : mx_H) (c n : Nat) : mx_G r (t_Mo_signal zz) 81 ls st h c n = (o_push 1 (.int 0)) r (mx_G r (t_Mo_signal zz)) 81 ls st h c n := mx_G_eq (tm_Mo_signal zz) r 81 ls st h c n
theorem st_Mo_signal_82 (zz : Nat × Nat) (r : mx_T) (ls : mx_L) (st : List Value) (h : mx_H) (c n : Nat) : mx_G r (t_Mo_signal zz) 82 ls st h c n = (o_push 1 (.int 1)) r (mx_G r (t_Mo_signal zz)) 82 ls st h c n := mx_G_eq (tm_Mo_signal zz) r 82 ls st h c n
theorem st_Mo_signal_83 (zz : Nat × Nat) (r : mx_T) (ls : mx_L) (st : List Value) (h : mx_H) (c n : Nat) : mx_G r (t_Mo_signal zz) 83 ls st h c n = (o_iload 1 3) r (mx_G r (t_Mo_signal zz)) 83 ls st h c n := mx_G_eq (tm_Mo_signal zz) r 83 ls st h c n
theorem st_Mo_signal_84 (zz : Nat × Nat) (r : mx_T) (ls : mx_L) (st : List Value) (h : mx_H) (c n : Nat) : mx_G r (t_Mo_signal zz) 84 ls st h c n = (o_ii (fun x y => x <<< (y &&& 31))) r (mx_G r (t_Mo_signal zz)) 84 ls st h c n := mx_G_eq (tm_Mo_signal zz) r 84 ls st h c n
theorem st_Mo_signal_85 (zz : Nat × Nat) (r : mx_T) (ls : mx_L) (st : List Value) (h : mx_H) (c n : Nat) : mx_G r (t_Mo_signal zz) 85 ls st h c n = (o_push 1 (.int 1)) r (mx_G r (t_Mo_signal zz)) 85 ls st h c n := mx_G_eq (tm_Mo_signal zz) r 85 ls st h c n
theorem st_Mo_signal_86 (zz : Nat × Nat) (r : mx_T) (ls : mx_L) (st : List Value) (h : mx_H) (c n : Nat) : mx_G r (t_Mo_signal zz) 86 ls st h c n = (o_ii (fun x y => x - y)) r (mx_G r (t_Mo_signal zz)) 86 ls st h c n := mx_G_eq (tm_Mo_signal zz) r 86 ls st h c n
theorem st_Mo_signal_87 (zz : Nat × Nat) (r : mx_T) (ls : mx_L) (st : List Value) (h : mx_H) (c n : Nat) : mx_G r (t_Mo_signal zz) 87 ls st h c n = (o_call 0 0 3 0 0 (fun _ _ => True) (S_Mo_within zz)) r (mx_G r (t_Mo_signal zz)) 87 ls st h c n := mx_G_eq (tm_Mo_signal zz) r 87 ls st h c n
theorem st_Mo_signal_90 (zz : Nat × Nat) (r : mx_T) (ls : mx_L) (st : List Value) (h : mx_H) (c n : Nat) : mx_G r (t_Mo_signal zz) 90 ls st h c n = (o_if 95 (fun x => ¬ x = 0)) r (mx_G r (t_Mo_signal zz)) 90 ls st h c n := mx_G_eq (tm_Mo_signal zz) r 90 ls st h c n
theorem st_Mo_signal_93 (zz : Nat × Nat) (r : mx_T) (ls : mx_L) (st : List Value) (h : mx_H) (c n : Nat) : mx_G r (t_Mo_signal zz) 93 ls st h c n = (o_push 1 (.int (-1))) r (mx_G r (t_Mo_signal zz)) 93 ls st h c n := mx_G_eq (tm_Mo_signal zz) r 93 ls st h c n
theorem st_Mo_signal_94 (zz : Nat × Nat) (r : mx_T) (ls : mx_L) (st : List Value) (h : mx_H) (c n : Nat) : mx_G r (t_Mo_signal zz) 94 ls st h c n = (o_iret) r (mx_G r (t_Mo_signal zz)) 94 ls st h c n := mx_G_eq (tm_Mo_signal zz) r 94 ls st h c n
theorem st_Mo_signal_95 (zz : Nat × Nat) (r : mx_T) (ls : mx_L) (st : List Value) (h : mx_H) (c n : Nat) : mx_G r (t_Mo_signal zz) 95 ls st h c n = (o_iload 1 2) r (mx_G r (t_Mo_signal zz)) 95 ls st h c n := mx_G_eq (tm_Mo_signal zz) r 95 ls st h c n
theorem st_Mo_signal_96 (zz : Nat × Nat) (r : mx_T) (ls : mx_L) (st : List Value) (h : mx_H) (c n : Nat) : mx_G r (t_Mo_signal zz) 96 ls st h c n = (o_istore 2 6) r (mx_G r (t_Mo_signal zz)) 96 ls st h c n := mx_G_eq (tm_Mo_signal zz) r 96 ls st h c n
theorem st_Mo_signal_98 (zz : Nat × Nat) (r : mx_T) (ls : mx_L) (st : List Value) (h : mx_H) (c n : Nat) : mx_G r (t_Mo_signal zz) 98 ls st h c n = (o_iload 2 6) r (mx_G r (t_Mo_signal zz)) 98 ls st h c n := mx_G_eq (tm_Mo_signal zz) r 98 ls st h c n
theorem st_Mo_signal_100 (zz : Nat × Nat) (r : mx_T) (ls : mx_L) (st : List Value) (h : mx_H) (c n : Nat) : mx_G r (t_Mo_signal zz) 100 ls st h c n = (o_iload 1 2) r (mx_G r (t_Mo_signal zz)) 100 ls st h c n := mx_G_eq (tm_Mo_signal zz) r 100 ls st h c n
theorem st_Mo_signal_101 (zz : Nat × Nat) (r : mx_T) (ls : mx_L) (st : List Value) (h : mx_H) (c n : Nat) : mx_G r (t_Mo_signal zz) 101 ls st h c n = (o_iload 1 3) r (mx_G r (t_Mo_signal zz)) 101 ls st h c n := mx_G_eq (tm_Mo_signal zz) r 101 ls st h c n
theorem st_Mo_signal_102 (zz : Nat × Nat) (r : mx_T) (ls : mx_L) (st : List Value) (h : mx_H) (c n : Nat) : mx_G r (t_Mo_signal zz) 102 ls st h c n = (o_ii (fun x y => x + y)) r (mx_G r (t_Mo_signal zz)) 102 ls st h c n := mx_G_eq (tm_Mo_signal zz) r 102 ls st h c n
theorem st_Mo_signal_103 (zz : Nat × Nat) (r : mx_T) (ls : mx_L) (st : List Value) (h : mx_H) (c n : Nat) : mx_G r (t_Mo_signal zz) 103 ls st h c n = (o_icmp 124 (fun x y => y ≤ x)) r (mx_G r (t_Mo_signal zz)) 103 ls st h c n := mx_G_eq (tm_Mo_signal zz) r 103 ls st h c n
theorem st_Mo_signal_106 (zz : Nat × Nat) (r : mx_T) (ls : mx_L) (st : List Value) (h : mx_H) (c n : Nat) : mx_G r (t_Mo_signal zz) 106 ls st h c n = (o_aload 1 0) r (mx_G r (t_Mo_signal zz)) 106 ls st h c n := mx_G_eq (tm_Mo_signal zz) r 106 ls st h c n
theorem st_Mo_signal_107 (zz : Nat × Nat) (r : mx_T) (ls : mx_L) (st : List Value) (h : mx_H) (c n : Nat) : mx_G r (t_Mo_signal zz) 107 ls st h c n = (o_iload 1 1) r (mx_G r (t_Mo_signal zz)) 107 ls st h c n := mx_G_eq (tm_Mo_signal zz) r 107 ls st h c n
theorem st_Mo_signal_108 (zz : Nat × Nat) (r : mx_T) (ls : mx_L) (st : List Value) (h : mx_H) (c n : Nat) : mx_G r (t_Mo_signal zz) 108 ls st h c n = (o_iload 2 6) r (mx_G r (t_Mo_signal zz)) 108 ls st h c n := mx_G_eq (tm_Mo_signal zz) r 108 ls st h c n
theorem st_Mo_signal_110 (zz : Nat × Nat) (r : mx_T) (ls : mx_L) (st : List Value) (h : mx_H) (c n : Nat) : mx_G r (t_Mo_signal zz) 110 ls st h c n = (o_call 0 0 3 0 0 (mx_rv 10) (S_Mo_bitTaken zz)) r (mx_G r (t_Mo_signal zz)) 110 ls st h c n := mx_G_eq (tm_Mo_signal zz) r 110 ls st h c n
theorem st_Mo_signal_113 (zz : Nat × Nat) (r : mx_T) (ls : mx_L) (st : List Value) (h : mx_H) (c n : Nat) : mx_G r (t_Mo_signal zz) 113 ls st h c n = (o_if 118 (fun x => x = 0)) r (mx_G r (t_Mo_signal zz)) 113 ls st h c n := mx_G_eq (tm_Mo_signal zz) r 113 ls st h c n
theorem st_Mo_signal_116 (zz : Nat × Nat) (r : mx_T) (ls : mx_L) (st : List Value) (h : mx_H) (c n : Nat) : mx_G r (t_Mo_signal zz) 116 ls st h c n = (o_push 1 (.int (-1))) r (mx_G r (t_Mo_signal zz)) 116 ls st h c n := mx_G_eq (tm_Mo_signal zz) r 116 ls st h c n
theorem st_Mo_signal_117 (zz : Nat × Nat) (r : mx_T) (ls : mx_L) (st : List Value) (h : mx_H) (c n : Nat) : mx_G r (t_Mo_signal zz) 117 ls st h c n = (o_iret) r (mx_G r (t_Mo_signal zz)) 117 ls st h c n := mx_G_eq (tm_Mo_signal zz) r 117 ls st h c n
theorem st_Mo_signal_118 (zz : Nat × Nat) (r : mx_T) (ls : mx_L) (st : List Value) (h : mx_H) (c n : Nat) : mx_G r (t_Mo_signal zz) 118 ls st h c n = (o_iinc 6 1) r (mx_G r (t_Mo_signal zz)) 118 ls st h c n := mx_G_eq (tm_Mo_signal zz) r 118 ls st h c n
theorem st_Mo_signal_121 (zz : Nat × Nat) (r : mx_T) (ls : mx_L) (st : List Value) (h : mx_H) (c n : Nat) : mx_G r (t_Mo_signal zz) 121 ls st h c n = (o_goto 98) r (mx_G r (t_Mo_signal zz)) 121 ls st h c n := mx_G_eq (tm_Mo_signal zz) r 121 ls st h c n
theorem st_Mo_signal_124 (zz : Nat × Nat) (r : mx_T) (ls : mx_L) (st : List Value) (h : mx_H) (c n : Nat) : mx_G r (t_Mo_signal zz) 124 ls st h c n = (o_aload 1 0) r (mx_G r (t_Mo_signal zz)) 124 ls st h c n := mx_G_eq (tm_Mo_signal zz) r 124 ls st h c n
theorem st_Mo_signal_125 (zz : Nat × Nat) (r : mx_T) (ls : mx_L) (st : List Value) (h : mx_H) (c n : Nat) : mx_G r (t_Mo_signal zz) 125 ls st h c n = (o_get 10 8) r (mx_G r (t_Mo_signal zz)) 125 ls st h c n := mx_G_eq (tm_Mo_signal zz) r 125 ls st h c n
theorem st_Mo_signal_128 (zz : Nat × Nat) (r : mx_T) (ls : mx_L) (st : List Value) (h : mx_H) (c n : Nat) : mx_G r (t_Mo_signal zz) 128 ls st h c n = (o_aload 1 0) r (mx_G r (t_Mo_signal zz)) 128 ls st h c n := mx_G_eq (tm_Mo_signal zz) r 128 ls st h c n
theorem st_Mo_signal_129 (zz : Nat × Nat) (r : mx_T) (ls : mx_L) (st : List Value) (h : mx_H) (c n : Nat) : mx_G r (t_Mo_signal zz) 129 ls st h c n = (o_get 10 7) r (mx_G r (t_Mo_signal zz)) 129 ls st h c n := mx_G_eq (tm_Mo_signal zz) r 129 ls st h c n
theorem st_Mo_signal_132 (zz : Nat × Nat) (r : mx_T) (ls : mx_L) (st : List Value) (h : mx_H) (c n : Nat) : mx_G r (t_Mo_signal zz) 132 ls st h c n = (o_iload 1 1) r (mx_G r (t_Mo_signal zz)) 132 ls st h c n := mx_G_eq (tm_Mo_signal zz) r 132 ls st h c n
theorem st_Mo_signal_133 (zz : Nat × Nat) (r : mx_T) (ls : mx_L) (st : List Value) (h : mx_H) (c n : Nat) : mx_G r (t_Mo_signal zz) 133 ls st h c n = (o_iast .int (fun x => x)) r (mx_G r (t_Mo_signal zz)) 133 ls st h c n := mx_G_eq (tm_Mo_signal zz) r 133 ls st h c n
theorem st_Mo_signal_134 (zz : Nat × Nat) (r : mx_T) (ls : mx_L) (st : List Value) (h : mx_H) (c n : Nat) : mx_G r (t_Mo_signal zz) 134 ls st h c n = (o_aload 1 0) r (mx_G r (t_Mo_signal zz)) 134 ls st h c n := mx_G_eq (tm_Mo_signal zz) r 134 ls st h c n
theorem st_Mo_signal_135 (zz : Nat × Nat) (r : mx_T) (ls : mx_L) (st : List Value) (h : mx_H) (c n : Nat) : mx_G r (t_Mo_signal zz) 135 ls st h c n = (o_get 10 9) r (mx_G r (t_Mo_signal zz)) 135 ls st h c n := mx_G_eq (tm_Mo_signal zz) r 135 ls st h c n
theorem st_Mo_signal_138 (zz : Nat × Nat) (r : mx_T) (ls : mx_L) (st : List Value) (h : mx_H) (c n : Nat) : mx_G r (t_Mo_signal zz) 138 ls st h c n = (o_aload 1 0) r (mx_G r (t_Mo_signal zz)) 138 ls st h c n := mx_G_eq (tm_Mo_signal zz) r 138 ls st h c n
theorem st_Mo_signal_139 (zz : Nat × Nat) (r : mx_T) (ls : mx_L) (st : List Value) (h : mx_H) (c n : Nat) : mx_G r (t_Mo_signal zz) 139 ls st h c n = (o_get 10 7) r (mx_G r (t_Mo_signal zz)) 139 ls st h c n := mx_G_eq (tm_Mo_signal zz) r 139 ls st h c n
theorem st_Mo_signal_142 (zz : Nat × Nat) (r : mx_T) (ls : mx_L) (st : List Value) (h : mx_H) (c n : Nat) : mx_G r (t_Mo_signal zz) 142 ls st h c n = (o_iload 1 2) r (mx_G r (t_Mo_signal zz)) 142 ls st h c n := mx_G_eq (tm_Mo_signal zz) r 142 ls st h c n
theorem st_Mo_signal_143 (zz : Nat × Nat) (r : mx_T) (ls : mx_L) (st : List Value) (h : mx_H) (c n : Nat) : mx_G r (t_Mo_signal zz) 143 ls st h c n = (o_iast .int (fun x => x)) r (mx_G r (t_Mo_signal zz)) 143 ls st h c n := mx_G_eq (tm_Mo_signal zz) r 143 ls st h c n
theorem st_Mo_signal_144 (zz : Nat × Nat) (r : mx_T) (ls : mx_L) (st : List Value) (h : mx_H) (c n : Nat) : mx_G r (t_Mo_signal zz) 144 ls st h c n = (o_aload 1 0) r (mx_G r (t_Mo_signal zz)) 144 ls st h c n := mx_G_eq (tm_Mo_signal zz) r 144 ls st h c n
theorem st_Mo_signal_145 (zz : Nat × Nat) (r : mx_T) (ls : mx_L) (st : List Value) (h : mx_H) (c n : Nat) : mx_G r (t_Mo_signal zz) 145 ls st h c n = (o_get 10 10) r (mx_G r (t_Mo_signal zz)) 145 ls st h c n := mx_G_eq (tm_Mo_signal zz) r 145 ls st h c n
theorem st_Mo_signal_148 (zz : Nat × Nat) (r : mx_T) (ls : mx_L) (st : List Value) (h : mx_H) (c n : Nat) : mx_G r (t_Mo_signal zz) 148 ls st h c n = (o_aload 1 0) r (mx_G r (t_Mo_signal zz)) 148 ls st h c n := mx_G_eq (tm_Mo_signal zz) r 148 ls st h c n
theorem st_Mo_signal_149 (zz : Nat × Nat) (r : mx_T) (ls : mx_L) (st : List Value) (h : mx_H) (c n : Nat) : mx_G r (t_Mo_signal zz) 149 ls st h c n = (o_get 10 7) r (mx_G r (t_Mo_signal zz)) 149 ls st h c n := mx_G_eq (tm_Mo_signal zz) r 149 ls st h c n
theorem st_Mo_signal_152 (zz : Nat × Nat) (r : mx_T) (ls : mx_L) (st : List Value) (h : mx_H) (c n : Nat) : mx_G r (t_Mo_signal zz) 152 ls st h c n = (o_iload 1 3) r (mx_G r (t_Mo_signal zz)) 152 ls st h c n := mx_G_eq (tm_Mo_signal zz) r 152 ls st h c n
theorem st_Mo_signal_153 (zz : Nat × Nat) (r : mx_T) (ls : mx_L) (st : List Value) (h : mx_H) (c n : Nat) : mx_G r (t_Mo_signal zz) 153 ls st h c n = (o_iast .int (fun x => x)) r (mx_G r (t_Mo_signal zz)) 153 ls st h c n := mx_G_eq (tm_Mo_signal zz) r 153 ls st h c n
theorem st_Mo_signal_154 (zz : Nat × Nat) (r : mx_T) (ls : mx_L) (st : List Value) (h : mx_H) (c n : Nat) : mx_G r (t_Mo_signal zz) 154 ls st h c n = (o_aload 1 0) r (mx_G r (t_Mo_signal zz)) 154 ls st h c n := mx_G_eq (tm_Mo_signal zz) r 154 ls st h c n
theorem st_Mo_signal_155 (zz : Nat × Nat) (r : mx_T) (ls : mx_L) (st : List Value) (h : mx_H) (c n : Nat) : mx_G r (t_Mo_signal zz) 155 ls st h c n = (o_get 10 11) r (mx_G r (t_Mo_signal zz)) 155 ls st h c n := mx_G_eq (tm_Mo_signal zz) r 155 ls st h c n
theorem st_Mo_signal_158 (zz : Nat × Nat) (r : mx_T) (ls : mx_L) (st : List Value) (h : mx_H) (c n : Nat) : mx_G r (t_Mo_signal zz) 158 ls st h c n = (o_aload 1 0) r (mx_G r (t_Mo_signal zz)) 158 ls st h c n := mx_G_eq (tm_Mo_signal zz) r 158 ls st h c n
set_option maxRecDepth 20000 in
theorem st_Mo_signal_159 (zz : Nat × Nat) (r : mx_T) (ls : mx_L) (st : List Value) (h : mx_H) (c n : Nat) : mx_G r (t_Mo_signal zz) 159 ls st h c n = (o_get 10 7) r (mx_G r (t_Mo_signal zz)) 159 ls st h c n := mx_G_eq (tm_Mo_signal zz) r 159 ls st h c n
set_option maxRecDepth 20000 in
theorem st_Mo_signal_162 (zz : Nat × Nat) (r : mx_T) (ls : mx_L) (st : List Value) (h : mx_H) (c n : Nat) : mx_G r (t_Mo_signal zz) 162 ls st h c n = (o_iload 2 4) r (mx_G r (t_Mo_signal zz)) 162 ls st h c n := mx_G_eq (tm_Mo_signal zz) r 162 ls st h c n
set_option maxRecDepth 20000 in
theorem st_Mo_signal_164 (zz : Nat × Nat) (r : mx_T) (ls : mx_L) (st : List Value) (h : mx_H) (c n : Nat) : mx_G r (t_Mo_signal zz) 164 ls st h c n = (o_iast .int (fun x => x)) r (mx_G r (t_Mo_signal zz)) 164 ls st h c n := mx_G_eq (tm_Mo_signal zz) r 164 ls st h c n
set_option maxRecDepth 20000 in
theorem st_Mo_signal_165 (zz : Nat × Nat) (r : mx_T) (ls : mx_L) (st : List Value) (h : mx_H) (c n : Nat) : mx_G r (t_Mo_signal zz) 165 ls st h c n = (o_aload 1 0) r (mx_G r (t_Mo_signal zz)) 165 ls st h c n := mx_G_eq (tm_Mo_signal zz) r 165 ls st h c n
set_option maxRecDepth 20000 in
theorem st_Mo_signal_166 (zz : Nat × Nat) (r : mx_T) (ls : mx_L) (st : List Value) (h : mx_H) (c n : Nat) : mx_G r (t_Mo_signal zz) 166 ls st h c n = (o_get 10 12) r (mx_G r (t_Mo_signal zz)) 166 ls st h c n := mx_G_eq (tm_Mo_signal zz) r 166 ls st h c n
set_option maxRecDepth 20000 in
theorem st_Mo_signal_169 (zz : Nat × Nat) (r : mx_T) (ls : mx_L) (st : List Value) (h : mx_H) (c n : Nat) : mx_G r (t_Mo_signal zz) 169 ls st h c n = (o_aload 1 0) r (mx_G r (t_Mo_signal zz)) 169 ls st h c n := mx_G_eq (tm_Mo_signal zz) r 169 ls st h c n
set_option maxRecDepth 20000 in
theorem st_Mo_signal_170 (zz : Nat × Nat) (r : mx_T) (ls : mx_L) (st : List Value) (h : mx_H) (c n : Nat) : mx_G r (t_Mo_signal zz) 170 ls st h c n = (o_get 10 7) r (mx_G r (t_Mo_signal zz)) 170 ls st h c n := mx_G_eq (tm_Mo_signal zz) r 170 ls st h c n
set_option maxRecDepth 20000 in
theorem st_Mo_signal_173 (zz : Nat × Nat) (r : mx_T) (ls : mx_L) (st : List Value) (h : mx_H) (c n : Nat) : mx_G r (t_Mo_signal zz) 173 ls st h c n = (o_iload 2 4) r (mx_G r (t_Mo_signal zz)) 173 ls st h c n := mx_G_eq (tm_Mo_signal zz) r 173 ls st h c n
set_option maxRecDepth 20000 in
theorem st_Mo_signal_175 (zz : Nat × Nat) (r : mx_T) (ls : mx_L) (st : List Value) (h : mx_H) (c n : Nat) : mx_G r (t_Mo_signal zz) 175 ls st h c n = (o_iast .int (fun x => x)) r (mx_G r (t_Mo_signal zz)) 175 ls st h c n := mx_G_eq (tm_Mo_signal zz) r 175 ls st h c n
set_option maxRecDepth 20000 in
theorem st_Mo_signal_176 (zz : Nat × Nat) (r : mx_T) (ls : mx_L) (st : List Value) (h : mx_H) (c n : Nat) : mx_G r (t_Mo_signal zz) 176 ls st h c n = (o_aload 1 0) r (mx_G r (t_Mo_signal zz)) 176 ls st h c n := mx_G_eq (tm_Mo_signal zz) r 176 ls st h c n
set_option maxRecDepth 20000 in
theorem st_Mo_signal_177 (zz : Nat × Nat) (r : mx_T) (ls : mx_L) (st : List Value) (h : mx_H) (c n : Nat) : mx_G r (t_Mo_signal zz) 177 ls st h c n = (o_dup) r (mx_G r (t_Mo_signal zz)) 177 ls st h c n := mx_G_eq (tm_Mo_signal zz) r 177 ls st h c n
set_option maxRecDepth 20000 in
theorem st_Mo_signal_178 (zz : Nat × Nat) (r : mx_T) (ls : mx_L) (st : List Value) (h : mx_H) (c n : Nat) : mx_G r (t_Mo_signal zz) 178 ls st h c n = (o_get 10 7) r (mx_G r (t_Mo_signal zz)) 178 ls st h c n := mx_G_eq (tm_Mo_signal zz) r 178 ls st h c n
set_option maxRecDepth 20000 in
theorem st_Mo_signal_181 (zz : Nat × Nat) (r : mx_T) (ls : mx_L) (st : List Value) (h : mx_H) (c n : Nat) : mx_G r (t_Mo_signal zz) 181 ls st h c n = (o_push 1 (.int 1)) r (mx_G r (t_Mo_signal zz)) 181 ls st h c n := mx_G_eq (tm_Mo_signal zz) r 181 ls st h c n
set_option maxRecDepth 20000 in
theorem st_Mo_signal_182 (zz : Nat × Nat) (r : mx_T) (ls : mx_L) (st : List Value) (h : mx_H) (c n : Nat) : mx_G r (t_Mo_signal zz) 182 ls st h c n = (o_ii (fun x y => x + y)) r (mx_G r (t_Mo_signal zz)) 182 ls st h c n := mx_G_eq (tm_Mo_signal zz) r 182 ls st h c n
set_option maxRecDepth 20000 in
theorem st_Mo_signal_183 (zz : Nat × Nat) (r : mx_T) (ls : mx_L) (st : List Value) (h : mx_H) (c n : Nat) : mx_G r (t_Mo_signal zz) 183 ls st h c n = (o_put 10 7 mx_vI) r (mx_G r (t_Mo_signal zz)) 183 ls st h c n := mx_G_eq (tm_Mo_signal zz) r 183 ls st h c n
set_option maxRecDepth 20000 in
theorem st_Mo_signal_186 (zz : Nat × Nat) (r : mx_T) (ls : mx_L) (st : List Value) (h : mx_H) (c n : Nat) : mx_G r (t_Mo_signal zz) 186 ls st h c n = (o_aload 1 0) r (mx_G r (t_Mo_signal zz)) 186 ls st h c n := mx_G_eq (tm_Mo_signal zz) r 186 ls st h c n
set_option maxRecDepth 20000 in
theorem st_Mo_signal_187 (zz : Nat × Nat) (r : mx_T) (ls : mx_L) (st : List Value) (h : mx_H) (c n : Nat) : mx_G r (t_Mo_signal zz) 187 ls st h c n = (o_get 10 7) r (mx_G r (t_Mo_signal zz)) 187 ls st h c n := mx_G_eq (tm_Mo_signal zz) r 187 ls st h c n
set_option maxRecDepth 20000 in
theorem st_Mo_signal_190 (zz : Nat × Nat) (r : mx_T) (ls : mx_L) (st : List Value) (h : mx_H) (c n : Nat) : mx_G r (t_Mo_signal zz) 190 ls st h c n = (o_push 1 (.int 1)) r (mx_G r (t_Mo_signal zz)) 190 ls st h c n := mx_G_eq (tm_Mo_signal zz) r 190 ls st h c n
set_option maxRecDepth 20000 in
theorem st_Mo_signal_191 (zz : Nat × Nat) (r : mx_T) (ls : mx_L) (st : List Value) (h : mx_H) (c n : Nat) : mx_G r (t_Mo_signal zz) 191 ls st h c n = (o_ii (fun x y => x - y)) r (mx_G r (t_Mo_signal zz)) 191 ls st h c n := mx_G_eq (tm_Mo_signal zz) r 191 ls st h c n
set_option maxRecDepth 20000 in
theorem st_Mo_signal_192 (zz : Nat × Nat) (r : mx_T) (ls : mx_L) (st : List Value) (h : mx_H) (c n : Nat) : mx_G r (t_Mo_signal zz) 192 ls st h c n = (o_iret) r (mx_G r (t_Mo_signal zz)) 192 ls st h c n := mx_G_eq (tm_Mo_signal zz) r 192 ls st h c n
theorem d_Mo_exists_0 : decode c_Mo_exists 0 = .ok (.iload_n 1, 1) := by decide +kernel
theorem d_Mo_exists_1 : decode c_Mo_exists 1 = .ok (.iconst 0, 1) := by decide +kernel
theorem d_Mo_exists_2 : decode c_Mo_exists 2 = .ok (.aload_n 0, 1) := by decide +kernel
theorem d_Mo_exists_3 : decode c_Mo_exists 3 = .ok (.getfield 81, 3) := by decide +kernel
theorem d_Mo_exists_6 : decode c_Mo_exists 6 = .ok (.iconst 1, 1) := by decide +kernel
theorem d_Mo_exists_7 : decode c_Mo_exists 7 = .ok (.isub, 1) := by decide +kernel
theorem d_Mo_exists_8 : decode c_Mo_exists 8 = .ok (.invokestatic 91, 3) := by decide +kernel
theorem d_Mo_exists_11 : decode c_Mo_exists 11 = .ok (.ireturn, 1) := by decide +kernel
def t_Mo_exists (zz : Nat × Nat) : List (Nat × mx_O) := [(0, o_iload 1 1),
  (1, o_push 1 (.int 0)),
  (2, o_aload 1 0),
  (3, o_get 10 0),
  (6, o_push 1 (.int 1)),
  (7, o_ii (fun x y => x - y)),
  (8, o_call 0 0 3 0 0 (fun _ _ => True) (S_Mo_within zz)),
  (11, o_zret)]
set_option maxRecDepth 100000 in
theorem tm_Mo_exists (zz : Nat × Nat) : mx_All (fun _ o => mx_Mono o) (t_Mo_exists zz) := by
  refine mx_all_cons (mo_st) ?_
  refine mx_all_cons (mo_st) ?_
  refine mx_all_cons (mo_st) ?_
  refine mx_all_cons (mo_st) ?_
  refine mx_all_cons (mo_st) ?_
  refine mx_all_cons (mo_st) ?_
  refine mx_all_cons (mo_call (sm_Mo_within zz)) ?_
  refine mx_all_cons (mo_zret) ?_
  exact mx_all_nil
def S_Mo_exists (zz : Nat × Nat) : mx_Sp := mx_S 2 0 0 (t_Mo_exists zz)
theorem sm_Mo_exists (zz : Nat × Nat) : mx_SMono (S_Mo_exists zz) := mx_S_mono (tm_Mo_exists zz)
abbrev rm_Mo_exists : Room := { frames := 1, cells := 0, slots := 0, locals := 22 }
set_option maxHeartbeats 4000000 in
set_option maxRecDepth 100000 in
theorem m_Mo_exists (l : Launch) (zz : Nat × Nat) : mx_Met l y_Mo_exists (wsOf y_Mo_exists c_Mo_exists 2 (some .boolean)) rm_Mo_exists wcl (mx_Z zz) 0 0 (S_Mo_exists zz) := by
  refine mx_met (cc := c_Mo_exists) (ret := (some .boolean)) (by decide) rfl ?_
  intro p e s m args below meth c D A Post X hz hr hlk hnm
  have hm : ∀ w ∈ mw, w.before args s = true := fun w h => X.1.2.2.2.2 w (List.mem_cons_of_mem _ h)
  refine mx_all_cons (ok_iload (fun hl kk => lv_iload_n X.1.1 X.1.2.1 d_Mo_exists_0 rfl hl kk)) ?_
  refine mx_all_cons (ok_push (fun kk => lv_iconst X.1.1 X.1.2.1 d_Mo_exists_1 (by decide) kk)) ?_
  refine mx_all_cons (ok_aload (fun hl kk => lv_aload_n X.1.1 X.1.2.1 d_Mo_exists_2 rfl hl kk) (fun hl kk => lv_aload_nN X.1.1 X.1.2.1 d_Mo_exists_2 rfl hl kk)) ?_
  refine mx_all_cons (ok_get (C := "HeaderScheduleModel") (T := T_Mo) (N := 40) X (mw_up in_Mo) rfl 0 (by decide) (hm _ w677) (fun _ h9 => h9) d_Mo_exists_3) ?_
  refine mx_all_cons (ok_push (fun kk => lv_iconst X.1.1 X.1.2.1 d_Mo_exists_6 (by decide) kk)) ?_
  refine mx_all_cons (ok_ii (fun kk => lv_isub X.1.1 X.1.2.1 d_Mo_exists_7 kk)) ?_
  refine mx_all_cons (ok_callS X (mx_Zok_Z zz) hz ⟨(Nat.le_of_ble_eq_true rfl), (Nat.le_of_ble_eq_true rfl)⟩ (m_Mo_within l zz) ⟨mx_cwB 3 hm w804 w802 w40 rfl rfl (by decide +kernel) ⟨(Nat.le_of_ble_eq_true rfl), (Nat.le_of_ble_eq_true rfl)⟩, (hm _ w803)⟩ d_Mo_exists_8) ?_
  refine mx_all_cons (ok_zret X hr hlk d_Mo_exists_11) ?_
  exact mx_all_nil
theorem st_Mo_exists_0 (zz : Nat × Nat) (r : mx_T) (ls : mx_L) (st : List Value) (h : mx_H) (c n : Nat) : mx_G r (t_Mo_exists zz) 0 ls st h c n = (o_iload 1 1) r (mx_G r (t_Mo_exists zz)) 0 ls st h c n := mx_G_eq (tm_Mo_exists zz) r 0 ls st h c n
theorem st_Mo_exists_1 (zz : Nat × Nat) (r : mx_T) (ls : mx_L) (st : List Value) (h : mx_H) (c n : Nat) : mx_G r (t_Mo_exists zz) 1 ls st h c n = (o_push 1 (.int 0)) r (mx_G r (t_Mo_exists zz)) 1 ls st h c n := mx_G_eq (tm_Mo_exists zz) r 1 ls st h c n
theorem st_Mo_exists_2 (zz : Nat × Nat) (r : mx_T) (ls : mx_L) (st : List Value) (h : mx_H) (c n : Nat) : mx_G r (t_Mo_exists zz) 2 ls st h c n = (o_aload 1 0) r (mx_G r (t_Mo_exists zz)) 2 ls st h c n := mx_G_eq (tm_Mo_exists zz) r 2 ls st h c n
theorem st_Mo_exists_3 (zz : Nat × Nat) (r : mx_T) (ls : mx_L) (st : List Value) (h : mx_H) (c n : Nat) : mx_G r (t_Mo_exists zz) 3 ls st h c n = (o_get 10 0) r (mx_G r (t_Mo_exists zz)) 3 ls st h c n := mx_G_eq (tm_Mo_exists zz) r 3 ls st h c n
theorem st_Mo_exists_6 (zz : Nat × Nat) (r : mx_T) (ls : mx_L) (st : List Value) (h : mx_H) (c n : Nat) : mx_G r (t_Mo_exists zz) 6 ls st h c n = (o_push 1 (.int 1)) r (mx_G r (t_Mo_exists zz)) 6 ls st h c n := mx_G_eq (tm_Mo_exists zz) r 6 ls st h c n
theorem st_Mo_exists_7 (zz : Nat × Nat) (r : mx_T) (ls : mx_L) (st : List Value) (h : mx_H) (c n : Nat) : mx_G r (t_Mo_exists zz) 7 ls st h c n = (o_ii (fun x y => x - y)) r (mx_G r (t_Mo_exists zz)) 7 ls st h c n := mx_G_eq (tm_Mo_exists zz) r 7 ls st h c n
theorem st_Mo_exists_8 (zz : Nat × Nat) (r : mx_T) (ls : mx_L) (st : List Value) (h : mx_H) (c n : Nat) : mx_G r (t_Mo_exists zz) 8 ls st h c n = (o_call 0 0 3 0 0 (fun _ _ => True) (S_Mo_within zz)) r (mx_G r (t_Mo_exists zz)) 8 ls st h c n := mx_G_eq (tm_Mo_exists zz) r 8 ls st h c n
theorem st_Mo_exists_11 (zz : Nat × Nat) (r : mx_T) (ls : mx_L) (st : List Value) (h : mx_H) (c n : Nat) : mx_G r (t_Mo_exists zz) 11 ls st h c n = (o_zret) r (mx_G r (t_Mo_exists zz)) 11 ls st h c n := mx_G_eq (tm_Mo_exists zz) r 11 ls st h c n
theorem d_Mo_sporadic_0 : decode c_Mo_sporadic 0 = .ok (.iload_n 3, 1) := by decide +kernel
theorem d_Mo_sporadic_1 : decode c_Mo_sporadic 1 = .ok (.iconst (-1), 1) := by decide +kernel
theorem d_Mo_sporadic_2 : decode c_Mo_sporadic 2 = .ok (.if_icmp .eq 7, 3) := by decide +kernel
theorem d_Mo_sporadic_5 : decode c_Mo_sporadic 5 = .ok (.iconst 1, 1) := by decide +kernel
theorem d_Mo_sporadic_6 : decode c_Mo_sporadic 6 = .ok (.goto 4, 3) := by decide +kernel
theorem d_Mo_sporadic_9 : decode c_Mo_sporadic 9 = .ok (.iconst 0, 1) := by decide +kernel
theorem d_Mo_sporadic_10 : decode c_Mo_sporadic 10 = .ok (.istore 4, 2) := by decide +kernel
theorem d_Mo_sporadic_12 : decode c_Mo_sporadic 12 = .ok (.aload_n 0, 1) := by decide +kernel
theorem d_Mo_sporadic_13 : decode c_Mo_sporadic 13 = .ok (.getfield 87, 3) := by decide +kernel
theorem d_Mo_sporadic_16 : decode c_Mo_sporadic 16 = .ok (.ifCond .ne 55, 3) := by decide +kernel
theorem d_Mo_sporadic_19 : decode c_Mo_sporadic 19 = .ok (.aload_n 0, 1) := by decide +kernel
theorem d_Mo_sporadic_20 : decode c_Mo_sporadic 20 = .ok (.getfield 109, 3) := by decide +kernel
theorem d_Mo_sporadic_23 : decode c_Mo_sporadic 23 = .ok (.iconst 2, 1) := by decide +kernel
theorem d_Mo_sporadic_24 : decode c_Mo_sporadic 24 = .ok (.if_icmp .eq 47, 3) := by decide +kernel
theorem d_Mo_sporadic_27 : decode c_Mo_sporadic 27 = .ok (.aload_n 0, 1) := by decide +kernel
theorem d_Mo_sporadic_28 : decode c_Mo_sporadic 28 = .ok (.iload_n 1, 1) := by decide +kernel
theorem d_Mo_sporadic_29 : decode c_Mo_sporadic 29 = .ok (.invokevirtual 112, 3) := by decide +kernel
theorem d_Mo_sporadic_32 : decode c_Mo_sporadic 32 = .ok (.ifCond .eq 39, 3) := by decide +kernel
theorem d_Mo_sporadic_35 : decode c_Mo_sporadic 35 = .ok (.aload_n 0, 1) := by decide +kernel
theorem d_Mo_sporadic_36 : decode c_Mo_sporadic 36 = .ok (.iload_n 2, 1) := by decide +kernel
theorem d_Mo_sporadic_37 : decode c_Mo_sporadic 37 = .ok (.invokevirtual 112, 3) := by decide +kernel
theorem d_Mo_sporadic_40 : decode c_Mo_sporadic 40 = .ok (.ifCond .eq 31, 3) := by decide +kernel
theorem d_Mo_sporadic_43 : decode c_Mo_sporadic 43 = .ok (.iload 4, 2) := by decide +kernel
theorem d_Mo_sporadic_45 : decode c_Mo_sporadic 45 = .ok (.ifCond .eq 11, 3) := by decide +kernel
theorem d_Mo_sporadic_48 : decode c_Mo_sporadic 48 = .ok (.aload_n 0, 1) := by decide +kernel
theorem d_Mo_sporadic_49 : decode c_Mo_sporadic 49 = .ok (.iload_n 3, 1) := by decide +kernel
theorem d_Mo_sporadic_50 : decode c_Mo_sporadic 50 = .ok (.invokevirtual 112, 3) := by decide +kernel
theorem d_Mo_sporadic_53 : decode c_Mo_sporadic 53 = .ok (.ifCond .eq 18, 3) := by decide +kernel
theorem d_Mo_sporadic_56 : decode c_Mo_sporadic 56 = .ok (.iload_n 1, 1) := by decide +kernel
theorem d_Mo_sporadic_57 : decode c_Mo_sporadic 57 = .ok (.iload_n 2, 1) := by decide +kernel
theorem d_Mo_sporadic_58 : decode c_Mo_sporadic 58 = .ok (.if_icmp .eq 13, 3) := by decide +kernel
theorem d_Mo_sporadic_61 : decode c_Mo_sporadic 61 = .ok (.iload_n 1, 1) := by decide +kernel
theorem d_Mo_sporadic_62 : decode c_Mo_sporadic 62 = .ok (.iload_n 3, 1) := by decide +kernel
theorem d_Mo_sporadic_63 : decode c_Mo_sporadic 63 = .ok (.if_icmp .eq 8, 3) := by decide +kernel
theorem d_Mo_sporadic_66 : decode c_Mo_sporadic 66 = .ok (.iload_n 2, 1) := by decide +kernel
theorem d_Mo_sporadic_67 : decode c_Mo_sporadic 67 = .ok (.iload_n 3, 1) := by decide +kernel
theorem d_Mo_sporadic_68 : decode c_Mo_sporadic 68 = .ok (.if_icmp .ne 5, 3) := by decide +kernel
theorem d_Mo_sporadic_71 : decode c_Mo_sporadic 71 = .ok (.iconst (-1), 1) := by decide +kernel
theorem d_Mo_sporadic_72 : decode c_Mo_sporadic 72 = .ok (.ireturn, 1) := by decide +kernel
theorem d_Mo_sporadic_73 : decode c_Mo_sporadic 73 = .ok (.aload_n 0, 1) := by decide +kernel
theorem d_Mo_sporadic_74 : decode c_Mo_sporadic 74 = .ok (.getfield 13, 3) := by decide +kernel
theorem d_Mo_sporadic_77 : decode c_Mo_sporadic 77 = .ok (.iload_n 1, 1) := by decide +kernel
theorem d_Mo_sporadic_78 : decode c_Mo_sporadic 78 = .ok (.iaload, 1) := by decide +kernel
theorem d_Mo_sporadic_79 : decode c_Mo_sporadic 79 = .ok (.ifCond .ne 26, 3) := by decide +kernel
theorem d_Mo_sporadic_82 : decode c_Mo_sporadic 82 = .ok (.aload_n 0, 1) := by decide +kernel
theorem d_Mo_sporadic_83 : decode c_Mo_sporadic 83 = .ok (.getfield 13, 3) := by decide +kernel
theorem d_Mo_sporadic_86 : decode c_Mo_sporadic 86 = .ok (.iload_n 2, 1) := by decide +kernel
theorem d_Mo_sporadic_87 : decode c_Mo_sporadic 87 = .ok (.iaload, 1) := by decide +kernel
theorem d_Mo_sporadic_88 : decode c_Mo_sporadic 88 = .ok (.ifCond .ne 17, 3) := by decide +kernel
theorem d_Mo_sporadic_91 : decode c_Mo_sporadic 91 = .ok (.iload 4, 2) := by decide +kernel
theorem d_Mo_sporadic_93 : decode c_Mo_sporadic 93 = .ok (.ifCond .eq 14, 3) := by decide +kernel
theorem d_Mo_sporadic_96 : decode c_Mo_sporadic 96 = .ok (.aload_n 0, 1) := by decide +kernel
theorem d_Mo_sporadic_97 : decode c_Mo_sporadic 97 = .ok (.getfield 13, 3) := by decide +kernel
theorem d_Mo_sporadic_100 : decode c_Mo_sporadic 100 = .ok (.iload_n 3, 1) := by decide +kernel
theorem d_Mo_sporadic_101 : decode c_Mo_sporadic 101 = .ok (.iaload, 1) := by decide +kernel
theorem d_Mo_sporadic_102 : decode c_Mo_sporadic 102 = .ok (.ifCond .eq 5, 3) := by decide +kernel
theorem d_Mo_sporadic_105 : decode c_Mo_sporadic 105 = .ok (.iconst (-1), 1) := by decide +kernel
theorem d_Mo_sporadic_106 : decode c_Mo_sporadic 106 = .ok (.ireturn, 1) := by decide +kernel
theorem d_Mo_sporadic_107 : decode c_Mo_sporadic 107 = .ok (.aload_n 0, 1) := by decide +kernel
theorem d_Mo_sporadic_108 : decode c_Mo_sporadic 108 = .ok (.getfield 47, 3) := by decide +kernel
theorem d_Mo_sporadic_111 : decode c_Mo_sporadic 111 = .ok (.iconst 3, 1) := by decide +kernel
theorem d_Mo_sporadic_112 : decode c_Mo_sporadic 112 = .ok (.aload_n 0, 1) := by decide +kernel
theorem d_Mo_sporadic_113 : decode c_Mo_sporadic 113 = .ok (.getfield 109, 3) := by decide +kernel
theorem d_Mo_sporadic_116 : decode c_Mo_sporadic 116 = .ok (.imul, 1) := by decide +kernel
theorem d_Mo_sporadic_117 : decode c_Mo_sporadic 117 = .ok (.iload_n 1, 1) := by decide +kernel
theorem d_Mo_sporadic_118 : decode c_Mo_sporadic 118 = .ok (.iastore, 1) := by decide +kernel
theorem d_Mo_sporadic_119 : decode c_Mo_sporadic 119 = .ok (.aload_n 0, 1) := by decide +kernel
theorem d_Mo_sporadic_120 : decode c_Mo_sporadic 120 = .ok (.getfield 47, 3) := by decide +kernel
theorem d_Mo_sporadic_123 : decode c_Mo_sporadic 123 = .ok (.iconst 3, 1) := by decide +kernel
theorem d_Mo_sporadic_124 : decode c_Mo_sporadic 124 = .ok (.aload_n 0, 1) := by decide +kernel
theorem d_Mo_sporadic_125 : decode c_Mo_sporadic 125 = .ok (.getfield 109, 3) := by decide +kernel
theorem d_Mo_sporadic_128 : decode c_Mo_sporadic 128 = .ok (.imul, 1) := by decide +kernel
theorem d_Mo_sporadic_129 : decode c_Mo_sporadic 129 = .ok (.iconst 1, 1) := by decide +kernel
theorem d_Mo_sporadic_130 : decode c_Mo_sporadic 130 = .ok (.iadd, 1) := by decide +kernel
theorem d_Mo_sporadic_131 : decode c_Mo_sporadic 131 = .ok (.iload_n 2, 1) := by decide +kernel
theorem d_Mo_sporadic_132 : decode c_Mo_sporadic 132 = .ok (.iastore, 1) := by decide +kernel
theorem d_Mo_sporadic_133 : decode c_Mo_sporadic 133 = .ok (.aload_n 0, 1) := by decide +kernel
theorem d_Mo_sporadic_134 : decode c_Mo_sporadic 134 = .ok (.getfield 47, 3) := by decide +kernel
theorem d_Mo_sporadic_137 : decode c_Mo_sporadic 137 = .ok (.iconst 3, 1) := by decide +kernel
theorem d_Mo_sporadic_138 : decode c_Mo_sporadic 138 = .ok (.aload_n 0, 1) := by decide +kernel
theorem d_Mo_sporadic_139 : decode c_Mo_sporadic 139 = .ok (.getfield 109, 3) := by decide +kernel
theorem d_Mo_sporadic_142 : decode c_Mo_sporadic 142 = .ok (.imul, 1) := by decide +kernel
theorem d_Mo_sporadic_143 : decode c_Mo_sporadic 143 = .ok (.iconst 2, 1) := by decide +kernel
theorem d_Mo_sporadic_144 : decode c_Mo_sporadic 144 = .ok (.iadd, 1) := by decide +kernel
theorem d_Mo_sporadic_145 : decode c_Mo_sporadic 145 = .ok (.iload_n 3, 1) := by decide +kernel
theorem d_Mo_sporadic_146 : decode c_Mo_sporadic 146 = .ok (.iastore, 1) := by decide +kernel
theorem d_Mo_sporadic_147 : decode c_Mo_sporadic 147 = .ok (.aload_n 0, 1) := by decide +kernel
theorem d_Mo_sporadic_148 : decode c_Mo_sporadic 148 = .ok (.dup, 1) := by decide +kernel
theorem d_Mo_sporadic_149 : decode c_Mo_sporadic 149 = .ok (.getfield 109, 3) := by decide +kernel
theorem d_Mo_sporadic_152 : decode c_Mo_sporadic 152 = .ok (.iconst 1, 1) := by decide +kernel
theorem d_Mo_sporadic_153 : decode c_Mo_sporadic 153 = .ok (.iadd, 1) := by decide +kernel
theorem d_Mo_sporadic_154 : decode c_Mo_sporadic 154 = .ok (.putfield 109, 3) := by decide +kernel
theorem d_Mo_sporadic_157 : decode c_Mo_sporadic 157 = .ok (.aload_n 0, 1) := by decide +kernel
theorem d_Mo_sporadic_158 : decode c_Mo_sporadic 158 = .ok (.getfield 109, 3) := by decide +kernel
theorem d_Mo_sporadic_161 : decode c_Mo_sporadic 161 = .ok (.iconst 1, 1) := by decide +kernel
theorem d_Mo_sporadic_162 : decode c_Mo_sporadic 162 = .ok (.isub, 1) := by decide +kernel
theorem d_Mo_sporadic_163 : decode c_Mo_sporadic 163 = .ok (.ireturn, 1) := by decide +kernel
def t_Mo_sporadic (zz : Nat × Nat) : List (Nat × mx_O) := [(0, o_iload 1 3),
  (1, o_push 1 (.int (-1))),
  (2, o_icmp 9 (fun x y => x = y)),
  (5, o_push 1 (.int 1)),
  (6, o_goto 10),
  (9, o_push 1 (.int 0)),
  (10, o_istore 2 4),
  (12, o_aload 1 0),
  (13, o_get 10 24),
  (16, o_if 71 (fun x => ¬ x = 0)),
  (19, o_aload 1 0),
  (20, o_get 10 14),
  (23, o_push 1 (.int 2)),
  (24, o_icmp 71 (fun x y => x = y)),
  (27, o_aload 1 0),
  (28, o_iload 1 1),
  (29, o_call 0 0 2 0 0 (mx_rv 10) (S_Mo_exists zz)),
  (32, o_if 71 (fun x => x = 0)),
  (35, o_aload 1 0),
  (36, o_iload 1 2),
  (37, o_call 0 0 2 0 0 (mx_rv 10) (S_Mo_exists zz)),
  (40, o_if 71 (fun x => x = 0)),
  (43, o_iload 2 4),
  (45, o_if 56 (fun x => x = 0)),
  (48, o_aload 1 0),
  (49, o_iload 1 3),
  (50, o_call 0 0 2 0 0 (mx_rv 10) (S_Mo_exists zz)),
  (53, o_if 71 (fun x => x = 0)),
  (56, o_iload 1 1),
  (57, o_iload 1 2),
  (58, o_icmp 71 (fun x y => x = y)),
  (61, o_iload 1 1),
  (62, o_iload 1 3),
  (63, o_icmp 71 (fun x y => x = y)),
  (66, o_iload 1 2),
  (67, o_iload 1 3),
  (68, o_icmp 73 (fun x y => ¬ x = y)),
  (71, o_push 1 (.int (-1))),
  (72, o_iret),
  (73, o_aload 1 0),
  (74, o_get 10 2),
  (77, o_iload 1 1),
  (78, o_iald .int),
  (79, o_if 105 (fun x => ¬ x = 0)),
  (82, o_aload 1 0),
  (83, o_get 10 2),
  (86, o_iload 1 2),
  (87, o_iald .int),
  (88, o_if 105 (fun x => ¬ x = 0)),
  (91, o_iload 2 4),
  (93, o_if 107 (fun x => x = 0)),
  (96, o_aload 1 0),
  (97, o_get 10 2),
  (100, o_iload 1 3),
  (101, o_iald .int),
  (102, o_if 107 (fun x => x = 0)),
  (105, o_push 1 (.int (-1))),
  (106, o_iret),
  (107, o_aload 1 0),
  (108, o_get 10 15),
  (111, o_push 1 (.int 3)),
  (112, o_aload 1 0),
  (113, o_get 10 14),
  (116, o_ii (fun x y => x * y)),
  (117, o_iload 1 1),
  (118, o_iast .int (fun x => x)),
  (119, o_aload 1 0),
  (120, o_get 10 15),
  (123, o_push 1 (.int 3)),
  (124, o_aload 1 0),
  (125, o_get 10 14),
  (128, o_ii (fun x y => x * y)),
  (129, o_push 1 (.int 1)),
  (130, o_ii (fun x y => x + y)),
  (131, o_iload 1 2),
  (132, o_iast .int (fun x => x)),
  (133, o_aload 1 0),
  (134, o_get 10 15),
  (137, o_push 1 (.int 3)),
  (138, o_aload 1 0),
  (139, o_get 10 14),
  (142, o_ii (fun x y => x * y)),
  (143, o_push 1 (.int 2)),
  (144, o_ii (fun x y => x + y)),
  (145, o_iload 1 3),
  (146, o_iast .int (fun x => x)),
  (147, o_aload 1 0),
  (148, o_dup),
  (149, o_get 10 14),
  (152, o_push 1 (.int 1)),
  (153, o_ii (fun x y => x + y)),
  (154, o_put 10 14 mx_vI),
  (157, o_aload 1 0),
  (158, o_get 10 14),
  (161, o_push 1 (.int 1)),
  (162, o_ii (fun x y => x - y)),
  (163, o_iret)]
set_option maxRecDepth 100000 in
theorem tm_Mo_sporadic (zz : Nat × Nat) : mx_All (fun _ o => mx_Mono o) (t_Mo_sporadic zz) := by
  refine mx_all_cons (mo_st) ?_
  refine mx_all_cons (mo_st) ?_
  refine mx_all_cons (mo_br) ?_
  refine mx_all_cons (mo_st) ?_
  refine mx_all_cons (mo_st) ?_
  refine mx_all_cons (mo_st) ?_
  refine mx_all_cons (mo_st) ?_
  refine mx_all_cons (mo_st) ?_
  refine mx_all_cons (mo_st) ?_
  refine mx_all_cons (mo_br) ?_
  refine mx_all_cons (mo_st) ?_
  refine mx_all_cons (mo_st) ?_
  refine mx_all_cons (mo_st) ?_
  refine mx_all_cons (mo_br) ?_
  refine mx_all_cons (mo_st) ?_
  refine mx_all_cons (mo_st) ?_
  refine mx_all_cons (mo_call (sm_Mo_exists zz)) ?_
  refine mx_all_cons (mo_br) ?_
  refine mx_all_cons (mo_st) ?_
  refine mx_all_cons (mo_st) ?_
  refine mx_all_cons (mo_call (sm_Mo_exists zz)) ?_
  refine mx_all_cons (mo_br) ?_
  refine mx_all_cons (mo_st) ?_
  refine mx_all_cons (mo_br) ?_
  refine mx_all_cons (mo_st) ?_
  refine mx_all_cons (mo_st) ?_
  refine mx_all_cons (mo_call (sm_Mo_exists zz)) ?_
  refine mx_all_cons (mo_br) ?_
  refine mx_all_cons (mo_st) ?_
  refine mx_all_cons (mo_st) ?_
  refine mx_all_cons (mo_br) ?_
  refine mx_all_cons (mo_st) ?_
  refine mx_all_cons (mo_st) ?_
  refine mx_all_cons (mo_br) ?_
  refine mx_all_cons (mo_st) ?_
  refine mx_all_cons (mo_st) ?_
  refine mx_all_cons (mo_br) ?_
  refine mx_all_cons (mo_st) ?_
  refine mx_all_cons (mo_ret) ?_
  refine mx_all_cons (mo_st) ?_
  refine mx_all_cons (mo_st) ?_
  refine mx_all_cons (mo_st) ?_
  refine mx_all_cons (mo_sc) ?_
  refine mx_all_cons (mo_br) ?_
  refine mx_all_cons (mo_st) ?_
  refine mx_all_cons (mo_st) ?_
  refine mx_all_cons (mo_st) ?_
  refine mx_all_cons (mo_sc) ?_
  refine mx_all_cons (mo_br) ?_
  refine mx_all_cons (mo_st) ?_
  refine mx_all_cons (mo_br) ?_
  refine mx_all_cons (mo_st) ?_
  refine mx_all_cons (mo_st) ?_
  refine mx_all_cons (mo_st) ?_
  refine mx_all_cons (mo_sc) ?_
  refine mx_all_cons (mo_br) ?_
  refine mx_all_cons (mo_st) ?_
  refine mx_all_cons (mo_ret) ?_
  refine mx_all_cons (mo_st) ?_
  refine mx_all_cons (mo_st) ?_
  refine mx_all_cons (mo_st) ?_
  refine mx_all_cons (mo_st) ?_
  refine mx_all_cons (mo_st) ?_
  refine mx_all_cons (mo_st) ?_
  refine mx_all_cons (mo_st) ?_
  refine mx_all_cons (mo_sc) ?_
  refine mx_all_cons (mo_st) ?_
  refine mx_all_cons (mo_st) ?_
  refine mx_all_cons (mo_st) ?_
  refine mx_all_cons (mo_st) ?_
  refine mx_all_cons (mo_st) ?_
  refine mx_all_cons (mo_st) ?_
  refine mx_all_cons (mo_st) ?_
  refine mx_all_cons (mo_st) ?_
  refine mx_all_cons (mo_st) ?_
  refine mx_all_cons (mo_sc) ?_
  refine mx_all_cons (mo_st) ?_
  refine mx_all_cons (mo_st) ?_
  refine mx_all_cons (mo_st) ?_
  refine mx_all_cons (mo_st) ?_
  refine mx_all_cons (mo_st) ?_
  refine mx_all_cons (mo_st) ?_
  refine mx_all_cons (mo_st) ?_
  refine mx_all_cons (mo_st) ?_
  refine mx_all_cons (mo_st) ?_
  refine mx_all_cons (mo_sc) ?_
  refine mx_all_cons (mo_st) ?_
  refine mx_all_cons (mo_st) ?_
  refine mx_all_cons (mo_st) ?_
  refine mx_all_cons (mo_st) ?_
  refine mx_all_cons (mo_st) ?_
  refine mx_all_cons (mo_sc) ?_
  refine mx_all_cons (mo_st) ?_
  refine mx_all_cons (mo_st) ?_
  refine mx_all_cons (mo_st) ?_
  refine mx_all_cons (mo_st) ?_
  refine mx_all_cons (mo_ret) ?_
  exact mx_all_nil
def S_Mo_sporadic (zz : Nat × Nat) : mx_Sp := mx_S 5 0 0 (t_Mo_sporadic zz)
theorem sm_Mo_sporadic (zz : Nat × Nat) : mx_SMono (S_Mo_sporadic zz) := mx_S_mono (tm_Mo_sporadic zz)
abbrev rm_Mo_sporadic : Room := { frames := 2, cells := 0, slots := 0, locals := 43 }
set_option maxHeartbeats 4000000 in
set_option maxRecDepth 100000 in
theorem m_Mo_sporadic (l : Launch) (zz : Nat × Nat) : mx_Met l y_Mo_sporadic (wsOf y_Mo_sporadic c_Mo_sporadic 5 (some .int)) rm_Mo_sporadic wcl (mx_Z zz) 0 0 (S_Mo_sporadic zz) := by
  refine mx_met (cc := c_Mo_sporadic) (ret := (some .int)) (by decide) rfl ?_
  intro p e s m args below meth c D A Post X hz hr hlk hnm
  have hm : ∀ w ∈ mw, w.before args s = true := fun w h => X.1.2.2.2.2 w (List.mem_cons_of_mem _ h)
  refine mx_all_cons (ok_iload (fun hl kk => lv_iload_n X.1.1 X.1.2.1 d_Mo_sporadic_0 rfl hl kk)) ?_
  refine mx_all_cons (ok_push (fun kk => lv_iconst X.1.1 X.1.2.1 d_Mo_sporadic_1 (by decide) kk)) ?_
  refine mx_all_cons (ok_icmp (fun kt kf => lv_icmp_eq X.1.1 X.1.2.1 d_Mo_sporadic_2 (by decide) kt kf)) ?_
  refine mx_all_cons (ok_push (fun kk => lv_iconst X.1.1 X.1.2.1 d_Mo_sporadic_5 (by decide) kk)) ?_
  refine mx_all_cons (ok_goto X d_Mo_sporadic_6 (by decide)) ?_
  refine mx_all_cons (ok_push (fun kk => lv_iconst X.1.1 X.1.2.1 d_Mo_sporadic_9 (by decide) kk)) ?_
  refine mx_all_cons (ok_istore (fun hl kk => lv_istore X.1.1 X.1.2.1 d_Mo_sporadic_10 hl (by decide) rfl kk)) ?_
  refine mx_all_cons (ok_aload (fun hl kk => lv_aload_n X.1.1 X.1.2.1 d_Mo_sporadic_12 rfl hl kk) (fun hl kk => lv_aload_nN X.1.1 X.1.2.1 d_Mo_sporadic_12 rfl hl kk)) ?_
  refine mx_all_cons (ok_get (C := "HeaderScheduleModel") (T := T_Mo) (N := 40) X (mw_up in_Mo) rfl 24 (by decide) (hm _ w701) (fun _ h9 => h9) d_Mo_sporadic_13) ?_
  refine mx_all_cons (ok_if (fun kt kf => lv_if_ne X.1.1 X.1.2.1 d_Mo_sporadic_16 (by decide) kt (fun z => kf (fun g => g z)))) ?_
  refine mx_all_cons (ok_aload (fun hl kk => lv_aload_n X.1.1 X.1.2.1 d_Mo_sporadic_19 rfl hl kk) (fun hl kk => lv_aload_nN X.1.1 X.1.2.1 d_Mo_sporadic_19 rfl hl kk)) ?_
  refine mx_all_cons (ok_get (C := "HeaderScheduleModel") (T := T_Mo) (N := 40) X (mw_up in_Mo) rfl 14 (by decide) (hm _ w691) (fun _ h9 => h9) d_Mo_sporadic_20) ?_
  refine mx_all_cons (ok_push (fun kk => lv_iconst X.1.1 X.1.2.1 d_Mo_sporadic_23 (by decide) kk)) ?_
  refine mx_all_cons (ok_icmp (fun kt kf => lv_icmp_eq X.1.1 X.1.2.1 d_Mo_sporadic_24 (by decide) kt kf)) ?_
  refine mx_all_cons (ok_aload (fun hl kk => lv_aload_n X.1.1 X.1.2.1 d_Mo_sporadic_27 rfl hl kk) (fun hl kk => lv_aload_nN X.1.1 X.1.2.1 d_Mo_sporadic_27 rfl hl kk)) ?_
  refine mx_all_cons (ok_iload (fun hl kk => lv_iload_n X.1.1 X.1.2.1 d_Mo_sporadic_28 rfl hl kk)) ?_
  refine mx_all_cons (ok_callV (C := "HeaderScheduleModel") (T := T_Mo) (N := 40) X (mx_Zok_Z zz) hz ⟨(Nat.le_of_ble_eq_true rfl), (Nat.le_of_ble_eq_true rfl)⟩ (m_Mo_exists l zz) ⟨mx_cwB 1 hm w828 w825 w40 rfl rfl (by decide +kernel) ⟨(Nat.le_of_ble_eq_true rfl), (Nat.le_of_ble_eq_true rfl)⟩, (hm _ w827), hm _ w19⟩ rfl d_Mo_sporadic_29) ?_
  refine mx_all_cons (ok_if (fun kt kf => lv_if_eq X.1.1 X.1.2.1 d_Mo_sporadic_32 (by decide) kt kf)) ?_
  refine mx_all_cons (ok_aload (fun hl kk => lv_aload_n X.1.1 X.1.2.1 d_Mo_sporadic_35 rfl hl kk) (fun hl kk => lv_aload_nN X.1.1 X.1.2.1 d_Mo_sporadic_35 rfl hl kk)) ?_
  refine mx_all_cons (ok_iload (fun hl kk => lv_iload_n X.1.1 X.1.2.1 d_Mo_sporadic_36 rfl hl kk)) ?_
  refine mx_all_cons (ok_callV (C := "HeaderScheduleModel") (T := T_Mo) (N := 40) X (mx_Zok_Z zz) hz ⟨(Nat.le_of_ble_eq_true rfl), (Nat.le_of_ble_eq_true rfl)⟩ (m_Mo_exists l zz) ⟨mx_cwB 1 hm w828 w825 w40 rfl rfl (by decide +kernel) ⟨(Nat.le_of_ble_eq_true rfl), (Nat.le_of_ble_eq_true rfl)⟩, (hm _ w827), hm _ w19⟩ rfl d_Mo_sporadic_37) ?_
  refine mx_all_cons (ok_if (fun kt kf => lv_if_eq X.1.1 X.1.2.1 d_Mo_sporadic_40 (by decide) kt kf)) ?_
  refine mx_all_cons (ok_iload (fun hl kk => lv_iload X.1.1 X.1.2.1 d_Mo_sporadic_43 hl kk)) ?_
  refine mx_all_cons (ok_if (fun kt kf => lv_if_eq X.1.1 X.1.2.1 d_Mo_sporadic_45 (by decide) kt kf)) ?_
  refine mx_all_cons (ok_aload (fun hl kk => lv_aload_n X.1.1 X.1.2.1 d_Mo_sporadic_48 rfl hl kk) (fun hl kk => lv_aload_nN X.1.1 X.1.2.1 d_Mo_sporadic_48 rfl hl kk)) ?_
  refine mx_all_cons (ok_iload (fun hl kk => lv_iload_n X.1.1 X.1.2.1 d_Mo_sporadic_49 rfl hl kk)) ?_
  refine mx_all_cons (ok_callV (C := "HeaderScheduleModel") (T := T_Mo) (N := 40) X (mx_Zok_Z zz) hz ⟨(Nat.le_of_ble_eq_true rfl), (Nat.le_of_ble_eq_true rfl)⟩ (m_Mo_exists l zz) ⟨mx_cwB 1 hm w828 w825 w40 rfl rfl (by decide +kernel) ⟨(Nat.le_of_ble_eq_true rfl), (Nat.le_of_ble_eq_true rfl)⟩, (hm _ w827), hm _ w19⟩ rfl d_Mo_sporadic_50) ?_
  refine mx_all_cons (ok_if (fun kt kf => lv_if_eq X.1.1 X.1.2.1 d_Mo_sporadic_53 (by decide) kt kf)) ?_
  refine mx_all_cons (ok_iload (fun hl kk => lv_iload_n X.1.1 X.1.2.1 d_Mo_sporadic_56 rfl hl kk)) ?_
  refine mx_all_cons (ok_iload (fun hl kk => lv_iload_n X.1.1 X.1.2.1 d_Mo_sporadic_57 rfl hl kk)) ?_
  refine mx_all_cons (ok_icmp (fun kt kf => lv_icmp_eq X.1.1 X.1.2.1 d_Mo_sporadic_58 (by decide) kt kf)) ?_
  refine mx_all_cons (ok_iload (fun hl kk => lv_iload_n X.1.1 X.1.2.1 d_Mo_sporadic_61 rfl hl kk)) ?_
  refine mx_all_cons (ok_iload (fun hl kk => lv_iload_n X.1.1 X.1.2.1 d_Mo_sporadic_62 rfl hl kk)) ?_
  refine mx_all_cons (ok_icmp (fun kt kf => lv_icmp_eq X.1.1 X.1.2.1 d_Mo_sporadic_63 (by decide) kt kf)) ?_
  refine mx_all_cons (ok_iload (fun hl kk => lv_iload_n X.1.1 X.1.2.1 d_Mo_sporadic_66 rfl hl kk)) ?_
  refine mx_all_cons (ok_iload (fun hl kk => lv_iload_n X.1.1 X.1.2.1 d_Mo_sporadic_67 rfl hl kk)) ?_
  refine mx_all_cons (ok_icmp (fun kt kf => lv_icmp_ne X.1.1 X.1.2.1 d_Mo_sporadic_68 (by decide) kt (fun z => kf (fun g => g z)))) ?_
  refine mx_all_cons (ok_push (fun kk => lv_iconst X.1.1 X.1.2.1 d_Mo_sporadic_71 (by decide) kk)) ?_
  refine mx_all_cons (ok_iret X hr hlk d_Mo_sporadic_72) ?_
  refine mx_all_cons (ok_aload (fun hl kk => lv_aload_n X.1.1 X.1.2.1 d_Mo_sporadic_73 rfl hl kk) (fun hl kk => lv_aload_nN X.1.1 X.1.2.1 d_Mo_sporadic_73 rfl hl kk)) ?_
  refine mx_all_cons (ok_get (C := "HeaderScheduleModel") (T := T_Mo) (N := 40) X (mw_up in_Mo) rfl 2 (by decide) (hm _ w679) (fun _ h9 => h9) d_Mo_sporadic_74) ?_
  refine mx_all_cons (ok_iload (fun hl kk => lv_iload_n X.1.1 X.1.2.1 d_Mo_sporadic_77 rfl hl kk)) ?_
  refine mx_all_cons (ok_iald X d_Mo_sporadic_78) ?_
  refine mx_all_cons (ok_if (fun kt kf => lv_if_ne X.1.1 X.1.2.1 d_Mo_sporadic_79 (by decide) kt (fun z => kf (fun g => g z)))) ?_
  refine mx_all_cons (ok_aload (fun hl kk => lv_aload_n X.1.1 X.1.2.1 d_Mo_sporadic_82 rfl hl kk) (fun hl kk => lv_aload_nN X.1.1 X.1.2.1 d_Mo_sporadic_82 rfl hl kk)) ?_
  refine mx_all_cons (ok_get (C := "HeaderScheduleModel") (T := T_Mo) (N := 40) X (mw_up in_Mo) rfl 2 (by decide) (hm _ w679) (fun _ h9 => h9) d_Mo_sporadic_83) ?_
  refine mx_all_cons (ok_iload (fun hl kk => lv_iload_n X.1.1 X.1.2.1 d_Mo_sporadic_86 rfl hl kk)) ?_
  refine mx_all_cons (ok_iald X d_Mo_sporadic_87) ?_
  refine mx_all_cons (ok_if (fun kt kf => lv_if_ne X.1.1 X.1.2.1 d_Mo_sporadic_88 (by decide) kt (fun z => kf (fun g => g z)))) ?_
  refine mx_all_cons (ok_iload (fun hl kk => lv_iload X.1.1 X.1.2.1 d_Mo_sporadic_91 hl kk)) ?_
  refine mx_all_cons (ok_if (fun kt kf => lv_if_eq X.1.1 X.1.2.1 d_Mo_sporadic_93 (by decide) kt kf)) ?_
  refine mx_all_cons (ok_aload (fun hl kk => lv_aload_n X.1.1 X.1.2.1 d_Mo_sporadic_96 rfl hl kk) (fun hl kk => lv_aload_nN X.1.1 X.1.2.1 d_Mo_sporadic_96 rfl hl kk)) ?_
  refine mx_all_cons (ok_get (C := "HeaderScheduleModel") (T := T_Mo) (N := 40) X (mw_up in_Mo) rfl 2 (by decide) (hm _ w679) (fun _ h9 => h9) d_Mo_sporadic_97) ?_
  refine mx_all_cons (ok_iload (fun hl kk => lv_iload_n X.1.1 X.1.2.1 d_Mo_sporadic_100 rfl hl kk)) ?_
  refine mx_all_cons (ok_iald X d_Mo_sporadic_101) ?_
  refine mx_all_cons (ok_if (fun kt kf => lv_if_eq X.1.1 X.1.2.1 d_Mo_sporadic_102 (by decide) kt kf)) ?_
  refine mx_all_cons (ok_push (fun kk => lv_iconst X.1.1 X.1.2.1 d_Mo_sporadic_105 (by decide) kk)) ?_
  refine mx_all_cons (ok_iret X hr hlk d_Mo_sporadic_106) ?_
  refine mx_all_cons (ok_aload (fun hl kk => lv_aload_n X.1.1 X.1.2.1 d_Mo_sporadic_107 rfl hl kk) (fun hl kk => lv_aload_nN X.1.1 X.1.2.1 d_Mo_sporadic_107 rfl hl kk)) ?_
  refine mx_all_cons (ok_get (C := "HeaderScheduleModel") (T := T_Mo) (N := 40) X (mw_up in_Mo) rfl 15 (by decide) (hm _ w692) (fun _ h9 => h9) d_Mo_sporadic_108) ?_
  refine mx_all_cons (ok_push (fun kk => lv_iconst X.1.1 X.1.2.1 d_Mo_sporadic_111 (by decide) kk)) ?_
  refine mx_all_cons (ok_aload (fun hl kk => lv_aload_n X.1.1 X.1.2.1 d_Mo_sporadic_112 rfl hl kk) (fun hl kk => lv_aload_nN X.1.1 X.1.2.1 d_Mo_sporadic_112 rfl hl kk)) ?_
  refine mx_all_cons (ok_get (C := "HeaderScheduleModel") (T := T_Mo) (N := 40) X (mw_up in_Mo) rfl 14 (by decide) (hm _ w691) (fun _ h9 => h9) d_Mo_sporadic_113) ?_
  refine mx_all_cons (ok_ii (fun kk => lv_imul X.1.1 X.1.2.1 d_Mo_sporadic_116 kk)) ?_
  refine mx_all_cons (ok_iload (fun hl kk => lv_iload_n X.1.1 X.1.2.1 d_Mo_sporadic_117 rfl hl kk)) ?_
  refine mx_all_cons (ok_iast X d_Mo_sporadic_118) ?_
  refine mx_all_cons (ok_aload (fun hl kk => lv_aload_n X.1.1 X.1.2.1 d_Mo_sporadic_119 rfl hl kk) (fun hl kk => lv_aload_nN X.1.1 X.1.2.1 d_Mo_sporadic_119 rfl hl kk)) ?_
  refine mx_all_cons (ok_get (C := "HeaderScheduleModel") (T := T_Mo) (N := 40) X (mw_up in_Mo) rfl 15 (by decide) (hm _ w692) (fun _ h9 => h9) d_Mo_sporadic_120) ?_
  refine mx_all_cons (ok_push (fun kk => lv_iconst X.1.1 X.1.2.1 d_Mo_sporadic_123 (by decide) kk)) ?_
  refine mx_all_cons (ok_aload (fun hl kk => lv_aload_n X.1.1 X.1.2.1 d_Mo_sporadic_124 rfl hl kk) (fun hl kk => lv_aload_nN X.1.1 X.1.2.1 d_Mo_sporadic_124 rfl hl kk)) ?_
  refine mx_all_cons (ok_get (C := "HeaderScheduleModel") (T := T_Mo) (N := 40) X (mw_up in_Mo) rfl 14 (by decide) (hm _ w691) (fun _ h9 => h9) d_Mo_sporadic_125) ?_
  refine mx_all_cons (ok_ii (fun kk => lv_imul X.1.1 X.1.2.1 d_Mo_sporadic_128 kk)) ?_
  refine mx_all_cons (ok_push (fun kk => lv_iconst X.1.1 X.1.2.1 d_Mo_sporadic_129 (by decide) kk)) ?_
  refine mx_all_cons (ok_ii (fun kk => lv_iadd X.1.1 X.1.2.1 d_Mo_sporadic_130 kk)) ?_
  refine mx_all_cons (ok_iload (fun hl kk => lv_iload_n X.1.1 X.1.2.1 d_Mo_sporadic_131 rfl hl kk)) ?_
  refine mx_all_cons (ok_iast X d_Mo_sporadic_132) ?_
  refine mx_all_cons (ok_aload (fun hl kk => lv_aload_n X.1.1 X.1.2.1 d_Mo_sporadic_133 rfl hl kk) (fun hl kk => lv_aload_nN X.1.1 X.1.2.1 d_Mo_sporadic_133 rfl hl kk)) ?_
  refine mx_all_cons (ok_get (C := "HeaderScheduleModel") (T := T_Mo) (N := 40) X (mw_up in_Mo) rfl 15 (by decide) (hm _ w692) (fun _ h9 => h9) d_Mo_sporadic_134) ?_
  refine mx_all_cons (ok_push (fun kk => lv_iconst X.1.1 X.1.2.1 d_Mo_sporadic_137 (by decide) kk)) ?_
  refine mx_all_cons (ok_aload (fun hl kk => lv_aload_n X.1.1 X.1.2.1 d_Mo_sporadic_138 rfl hl kk) (fun hl kk => lv_aload_nN X.1.1 X.1.2.1 d_Mo_sporadic_138 rfl hl kk)) ?_
  refine mx_all_cons (ok_get (C := "HeaderScheduleModel") (T := T_Mo) (N := 40) X (mw_up in_Mo) rfl 14 (by decide) (hm _ w691) (fun _ h9 => h9) d_Mo_sporadic_139) ?_
  refine mx_all_cons (ok_ii (fun kk => lv_imul X.1.1 X.1.2.1 d_Mo_sporadic_142 kk)) ?_
  refine mx_all_cons (ok_push (fun kk => lv_iconst X.1.1 X.1.2.1 d_Mo_sporadic_143 (by decide) kk)) ?_
  refine mx_all_cons (ok_ii (fun kk => lv_iadd X.1.1 X.1.2.1 d_Mo_sporadic_144 kk)) ?_
  refine mx_all_cons (ok_iload (fun hl kk => lv_iload_n X.1.1 X.1.2.1 d_Mo_sporadic_145 rfl hl kk)) ?_
  refine mx_all_cons (ok_iast X d_Mo_sporadic_146) ?_
  refine mx_all_cons (ok_aload (fun hl kk => lv_aload_n X.1.1 X.1.2.1 d_Mo_sporadic_147 rfl hl kk) (fun hl kk => lv_aload_nN X.1.1 X.1.2.1 d_Mo_sporadic_147 rfl hl kk)) ?_
  refine mx_all_cons (ok_dup X d_Mo_sporadic_148) ?_
  refine mx_all_cons (ok_get (C := "HeaderScheduleModel") (T := T_Mo) (N := 40) X (mw_up in_Mo) rfl 14 (by decide) (hm _ w691) (fun _ h9 => h9) d_Mo_sporadic_149) ?_
  refine mx_all_cons (ok_push (fun kk => lv_iconst X.1.1 X.1.2.1 d_Mo_sporadic_152 (by decide) kk)) ?_
  refine mx_all_cons (ok_ii (fun kk => lv_iadd X.1.1 X.1.2.1 d_Mo_sporadic_153 kk)) ?_
  refine mx_all_cons (ok_put (C := "HeaderScheduleModel") (T := T_Mo) (N := 40) X (mw_up in_Mo) ty_Mo tyok_Mo nm_Mo rfl 14 (by decide) (hm _ w691) (fun _ h9 => h9) rfl (tyok_Mo 14 (by decide)) mx_vI_ok d_Mo_sporadic_154) ?_
  refine mx_all_cons (ok_aload (fun hl kk => lv_aload_n X.1.1 X.1.2.1 d_Mo_sporadic_157 rfl hl kk) (fun hl kk => lv_aload_nN X.1.1 X.1.2.1 d_Mo_sporadic_157 rfl hl kk)) ?_
  refine mx_all_cons (ok_get (C := "HeaderScheduleModel") (T := T_Mo) (N := 40) X (mw_up in_Mo) rfl 14 (by decide) (hm _ w691) (fun _ h9 => h9) d_Mo_sporadic_158) ?_
  refine mx_all_cons (ok_push (fun kk => lv_iconst X.1.1 X.1.2.1 d_Mo_sporadic_161 (by decide) kk)) ?_
  refine mx_all_cons (ok_ii (fun kk => lv_isub X.1.1 X.1.2.1 d_Mo_sporadic_162 kk)) ?_
  refine mx_all_cons (ok_iret X hr hlk d_Mo_sporadic_163) ?_
  exact mx_all_nil
theorem st_Mo_sporadic_0 (zz : Nat × Nat) (r : mx_T) (ls : mx_L) (st : List Value) (h : mx_H) (c n : Nat) : mx_G r (t_Mo_sporadic zz) 0 ls st h c n = (o_iload 1 3) r (mx_G r (t_Mo_sporadic zz)) 0 ls st h c n := mx_G_eq (tm_Mo_sporadic zz) r 0 ls st h c n
theorem st_Mo_sporadic_1 (zz : Nat × Nat) (r : mx_T) (ls : mx_L) (st : List Value) (h : mx_H) (c n : Nat) : mx_G r (t_Mo_sporadic zz) 1 ls st h c n = (o_push 1 (.int (-1))) r (mx_G r (t_Mo_sporadic zz)) 1 ls st h c n := mx_G_eq (tm_Mo_sporadic zz) r 1 ls st h c n
theorem st_Mo_sporadic_2 (zz : Nat × Nat) (r : mx_T) (ls : mx_L) (st : List Value) (h : mx_H) (c n : Nat) : mx_G r (t_Mo_sporadic zz) 2 ls st h c n = (o_icmp 9 (fun x y => x = y)) r (mx_G r (t_Mo_sporadic zz)) 2 ls st h c n := mx_G_eq (tm_Mo_sporadic zz) r 2 ls st h c n
theorem st_Mo_sporadic_5 (zz : Nat × Nat) (r : mx_T) (ls : mx_L) (st : List Value) (h : mx_H) (c n : Nat) : mx_G r (t_Mo_sporadic zz) 5 ls st h c n = (o_push 1 (.int 1)) r (mx_G r (t_Mo_sporadic zz)) 5 ls st h c n := mx_G_eq (tm_Mo_sporadic zz) r 5 ls st h c n
theorem st_Mo_sporadic_6 (zz : Nat × Nat) (r : mx_T) (ls : mx_L) (st : List Value) (h : mx_H) (c n : Nat) : mx_G r (t_Mo_sporadic zz) 6 ls st h c n = (o_goto 10) r (mx_G r (t_Mo_sporadic zz)) 6 ls st h c n := mx_G_eq (tm_Mo_sporadic zz) r 6 ls st h c n
theorem st_Mo_sporadic_9 (zz : Nat × Nat) (r : mx_T) (ls : mx_L) (st : List Value) (h : mx_H) (c n : Nat) : mx_G r (t_Mo_sporadic zz) 9 ls st h c n = (o_push 1 (.int 0)) r (mx_G r (t_Mo_sporadic zz)) 9 ls st h c n := mx_G_eq (tm_Mo_sporadic zz) r 9 ls st h c n
theorem st_Mo_sporadic_10 (zz : Nat × Nat) (r : mx_T) (ls : mx_L) (st : List Value) (h : mx_H) (c n : Nat) : mx_G r (t_Mo_sporadic zz) 10 ls st h c n = (o_istore 2 4) r (mx_G r (t_Mo_sporadic zz)) 10 ls st h c n := mx_G_eq (tm_Mo_sporadic zz) r 10 ls st h c n
theorem st_Mo_sporadic_12 (zz : Nat × Nat) (r : mx_T) (ls : mx_L) (st : List Value) (h : mx_H) (c n : Nat) : mx_G r (t_Mo_sporadic zz) 12 ls st h c n = (o_aload 1 0) r (mx_G r (t_Mo_sporadic zz)) 12 ls st h c n := mx_G_eq (tm_Mo_sporadic zz) r 12 ls st h c n
theorem st_Mo_sporadic_13 (zz : Nat × Nat) (r : mx_T) (ls : mx_L) (st : List Value) (h : mx_H) (c n : Nat) : mx_G r (t_Mo_sporadic zz) 13 ls st h c n = (o_get 10 24) r (mx_G r (t_Mo_sporadic zz)) 13 ls st h c n := mx_G_eq (tm_Mo_sporadic zz) r 13 ls st h c n
theorem st_Mo_sporadic_16 (zz : Nat × Nat) (r : mx_T) (ls : mx_L) (st : List Value) (h : mx_H) (c n : Nat) : mx_G r (t_Mo_sporadic zz) 16 ls st h c n = (o_if 71 (fun x => ¬ x = 0)) r (mx_G r (t_Mo_sporadic zz)) 16 ls st h c n := mx_G_eq (tm_Mo_sporadic zz) r 16 ls st h c n
theorem st_Mo_sporadic_19 (zz : Nat × Nat) (r : mx_T) (ls : mx_L) (st : List Value) (h : mx_H) (c n : Nat) : mx_G r (t_Mo_sporadic zz) 19 ls st h c n = (o_aload 1 0) r (mx_G r (t_Mo_sporadic zz)) 19 ls st h c n := mx_G_eq (tm_Mo_sporadic zz) r 19 ls st h c n
theorem st_Mo_sporadic_20 (zz : Nat × Nat) (r : mx_T) (ls : mx_L) (st : List Value) (h : mx_H) (c n : Nat) : mx_G r (t_Mo_sporadic zz) 20 ls st h c n = (o_get 10 14) r (mx_G r (t_Mo_sporadic zz)) 20 ls st h c n := mx_G_eq (tm_Mo_sporadic zz) r 20 ls st h c n
theorem st_Mo_sporadic_23 (zz : Nat × Nat) (r : mx_T) (ls : mx_L) (st : List Value) (h : mx_H) (c n : Nat) : mx_G r (t_Mo_sporadic zz) 23 ls st h c n = (o_push 1 (.int 2)) r (mx_G r (t_Mo_sporadic zz)) 23 ls st h c n := mx_G_eq (tm_Mo_sporadic zz) r 23 ls st h c n
theorem st_Mo_sporadic_24 (zz : Nat × Nat) (r : mx_T) (ls : mx_L) (st : List Value) (h : mx_H) (c n : Nat) : mx_G r (t_Mo_sporadic zz) 24 ls st h c n = (o_icmp 71 (fun x y => x = y)) r (mx_G r (t_Mo_sporadic zz)) 24 ls st h c n := mx_G_eq (tm_Mo_sporadic zz) r 24 ls st h c n
theorem st_Mo_sporadic_27 (zz : Nat × Nat) (r : mx_T) (ls : mx_L) (st : List Value) (h : mx_H) (c n : Nat) : mx_G r (t_Mo_sporadic zz) 27 ls st h c n = (o_aload 1 0) r (mx_G r (t_Mo_sporadic zz)) 27 ls st h c n := mx_G_eq (tm_Mo_sporadic zz) r 27 ls st h c n
theorem st_Mo_sporadic_28 (zz : Nat × Nat) (r : mx_T) (ls : mx_L) (st : List Value) (h : mx_H) (c n : Nat) : mx_G r (t_Mo_sporadic zz) 28 ls st h c n = (o_iload 1 1) r (mx_G r (t_Mo_sporadic zz)) 28 ls st h c n := mx_G_eq (tm_Mo_sporadic zz) r 28 ls st h c n
theorem st_Mo_sporadic_29 (zz : Nat × Nat) (r : mx_T) (ls : mx_L) (st : List Value) (h : mx_H) (c n : Nat) : mx_G r (t_Mo_sporadic zz) 29 ls st h c n = (o_call 0 0 2 0 0 (mx_rv 10) (S_Mo_exists zz)) r (mx_G r (t_Mo_sporadic zz)) 29 ls st h c n := mx_G_eq (tm_Mo_sporadic zz) r 29 ls st h c n
theorem st_Mo_sporadic_32 (zz : Nat × Nat) (r : mx_T) (ls : mx_L) (st : List Value) (h : mx_H) (c n : Nat) : mx_G r (t_Mo_sporadic zz) 32 ls st h c n = (o_if 71 (fun x => x = 0)) r (mx_G r (t_Mo_sporadic zz)) 32 ls st h c n := mx_G_eq (tm_Mo_sporadic zz) r 32 ls st h c n
theorem st_Mo_sporadic_35 (zz : Nat × Nat) (r : mx_T) (ls : mx_L) (st : List Value) (h : mx_H) (c n : Nat) : mx_G r (t_Mo_sporadic zz) 35 ls st h c n = (o_aload 1 0) r (mx_G r (t_Mo_sporadic zz)) 35 ls st h c n := mx_G_eq (tm_Mo_sporadic zz) r 35 ls st h c n
theorem st_Mo_sporadic_36 (zz : Nat × Nat) (r : mx_T) (ls : mx_L) (st : List Value) (h : mx_H) (c n : Nat) : mx_G r (t_Mo_sporadic zz) 36 ls st h c n = (o_iload 1 2) r (mx_G r (t_Mo_sporadic zz)) 36 ls st h c n := mx_G_eq (tm_Mo_sporadic zz) r 36 ls st h c n
theorem st_Mo_sporadic_37 (zz : Nat × Nat) (r : mx_T) (ls : mx_L) (st : List Value) (h : mx_H) (c n : Nat) : mx_G r (t_Mo_sporadic zz) 37 ls st h c n = (o_call 0 0 2 0 0 (mx_rv 10) (S_Mo_exists zz)) r (mx_G r (t_Mo_sporadic zz)) 37 ls st h c n := mx_G_eq (tm_Mo_sporadic zz) r 37 ls st h c n
theorem st_Mo_sporadic_40 (zz : Nat × Nat) (r : mx_T) (ls : mx_L) (st : List Value) (h : mx_H) (c n : Nat) : mx_G r (t_Mo_sporadic zz) 40 ls st h c n = (o_if 71 (fun x => x = 0)) r (mx_G r (t_Mo_sporadic zz)) 40 ls st h c n := mx_G_eq (tm_Mo_sporadic zz) r 40 ls st h c n
theorem st_Mo_sporadic_43 (zz : Nat × Nat) (r : mx_T) (ls : mx_L) (st : List Value) (h : mx_H) (c n : Nat) : mx_G r (t_Mo_sporadic zz) 43 ls st h c n = (o_iload 2 4) r (mx_G r (t_Mo_sporadic zz)) 43 ls st h c n := mx_G_eq (tm_Mo_sporadic zz) r 43 ls st h c n
theorem st_Mo_sporadic_45 (zz : Nat × Nat) (r : mx_T) (ls : mx_L) (st : List Value) (h : mx_H) (c n : Nat) : mx_G r (t_Mo_sporadic zz) 45 ls st h c n = (o_if 56 (fun x => x = 0)) r (mx_G r (t_Mo_sporadic zz)) 45 ls st h c n := mx_G_eq (tm_Mo_sporadic zz) r 45 ls st h c n
theorem st_Mo_sporadic_48 (zz : Nat × Nat) (r : mx_T) (ls : mx_L) (st : List Value) (h : mx_H) (c n : Nat) : mx_G r (t_Mo_sporadic zz) 48 ls st h c n = (o_aload 1 0) r (mx_G r (t_Mo_sporadic zz)) 48 ls st h c n := mx_G_eq (tm_Mo_sporadic zz) r 48 ls st h c n
theorem st_Mo_sporadic_49 (zz : Nat × Nat) (r : mx_T) (ls : mx_L) (st : List Value) (h : mx_H) (c n : Nat) : mx_G r (t_Mo_sporadic zz) 49 ls st h c n = (o_iload 1 3) r (mx_G r (t_Mo_sporadic zz)) 49 ls st h c n := mx_G_eq (tm_Mo_sporadic zz) r 49 ls st h c n
theorem st_Mo_sporadic_50 (zz : Nat × Nat) (r : mx_T) (ls : mx_L) (st : List Value) (h : mx_H) (c n : Nat) : mx_G r (t_Mo_sporadic zz) 50 ls st h c n = (o_call 0 0 2 0 0 (mx_rv 10) (S_Mo_exists zz)) r (mx_G r (t_Mo_sporadic zz)) 50 ls st h c n := mx_G_eq (tm_Mo_sporadic zz) r 50 ls st h c n
theorem st_Mo_sporadic_53 (zz : Nat × Nat) (r : mx_T) (ls : mx_L) (st : List Value) (h : mx_H) (c n : Nat) : mx_G r (t_Mo_sporadic zz) 53 ls st h c n = (o_if 71 (fun x => x = 0)) r (mx_G r (t_Mo_sporadic zz)) 53 ls st h c n := mx_G_eq (tm_Mo_sporadic zz) r 53 ls st h c n
theorem st_Mo_sporadic_56 (zz : Nat × Nat) (r : mx_T) (ls : mx_L) (st : List Value) (h : mx_H) (c n : Nat) : mx_G r (t_Mo_sporadic zz) 56 ls st h c n = (o_iload 1 1) r (mx_G r (t_Mo_sporadic zz)) 56 ls st h c n := mx_G_eq (tm_Mo_sporadic zz) r 56 ls st h c n
theorem st_Mo_sporadic_57 (zz : Nat × Nat) (r : mx_T) (ls : mx_L) (st : List Value) (h : mx_H) (c n : Nat) : mx_G r (t_Mo_sporadic zz) 57 ls st h c n = (o_iload 1 2) r (mx_G r (t_Mo_sporadic zz)) 57 ls st h c n := mx_G_eq (tm_Mo_sporadic zz) r 57 ls st h c n
theorem st_Mo_sporadic_58 (zz : Nat × Nat) (r : mx_T) (ls : mx_L) (st : List Value) (h : mx_H) (c n : Nat) : mx_G r (t_Mo_sporadic zz) 58 ls st h c n = (o_icmp 71 (fun x y => x = y)) r (mx_G r (t_Mo_sporadic zz)) 58 ls st h c n := mx_G_eq (tm_Mo_sporadic zz) r 58 ls st h c n
theorem st_Mo_sporadic_61 (zz : Nat × Nat) (r : mx_T) (ls : mx_L) (st : List Value) (h : mx_H) (c n : Nat) : mx_G r (t_Mo_sporadic zz) 61 ls st h c n = (o_iload 1 1) r (mx_G r (t_Mo_sporadic zz)) 61 ls st h c n := mx_G_eq (tm_Mo_sporadic zz) r 61 ls st h c n
theorem st_Mo_sporadic_62 (zz : Nat × Nat) (r : mx_T) (ls : mx_L) (st : List Value) (h : mx_H) (c n : Nat) : mx_G r (t_Mo_sporadic zz) 62 ls st h c n = (o_iload 1 3) r (mx_G r (t_Mo_sporadic zz)) 62 ls st h c n := mx_G_eq (tm_Mo_sporadic zz) r 62 ls st h c n
theorem st_Mo_sporadic_63 (zz : Nat × Nat) (r : mx_T) (ls : mx_L) (st : List Value) (h : mx_H) (c n : Nat) : mx_G r (t_Mo_sporadic zz) 63 ls st h c n = (o_icmp 71 (fun x y => x = y)) r (mx_G r (t_Mo_sporadic zz)) 63 ls st h c n := mx_G_eq (tm_Mo_sporadic zz) r 63 ls st h c n
theorem st_Mo_sporadic_66 (zz : Nat × Nat) (r : mx_T) (ls : mx_L) (st : List Value) (h : mx_H) (c n : Nat) : mx_G r (t_Mo_sporadic zz) 66 ls st h c n = (o_iload 1 2) r (mx_G r (t_Mo_sporadic zz)) 66 ls st h c n := mx_G_eq (tm_Mo_sporadic zz) r 66 ls st h c n
theorem st_Mo_sporadic_67 (zz : Nat × Nat) (r : mx_T) (ls : mx_L) (st : List Value) (h : mx_H) (c n : Nat) : mx_G r (t_Mo_sporadic zz) 67 ls st h c n = (o_iload 1 3) r (mx_G r (t_Mo_sporadic zz)) 67 ls st h c n := mx_G_eq (tm_Mo_sporadic zz) r 67 ls st h c n
theorem st_Mo_sporadic_68 (zz : Nat × Nat) (r : mx_T) (ls : mx_L) (st : List Value) (h : mx_H) (c n : Nat) : mx_G r (t_Mo_sporadic zz) 68 ls st h c n = (o_icmp 73 (fun x y => ¬ x = y)) r (mx_G r (t_Mo_sporadic zz)) 68 ls st h c n := mx_G_eq (tm_Mo_sporadic zz) r 68 ls st h c n
theorem st_Mo_sporadic_71 (zz : Nat × Nat) (r : mx_T) (ls : mx_L) (st : List Value) (h : mx_H) (c n : Nat) : mx_G r (t_Mo_sporadic zz) 71 ls st h c n = (o_push 1 (.int (-1))) r (mx_G r (t_Mo_sporadic zz)) 71 ls st h c n := mx_G_eq (tm_Mo_sporadic zz) r 71 ls st h c n
theorem st_Mo_sporadic_72 (zz : Nat × Nat) (r : mx_T) (ls : mx_L) (st : List Value) (h : mx_H) (c n : Nat) : mx_G r (t_Mo_sporadic zz) 72 ls st h c n = (o_iret) r (mx_G r (t_Mo_sporadic zz)) 72 ls st h c n := mx_G_eq (tm_Mo_sporadic zz) r 72 ls st h c n
theorem st_Mo_sporadic_73 (zz : Nat × Nat) (r : mx_T) (ls : mx_L) (st : List Value) (h : mx_H) (c n : Nat) : mx_G r (t_Mo_sporadic zz) 73 ls st h c n = (o_aload 1 0) r (mx_G r (t_Mo_sporadic zz)) 73 ls st h c n := mx_G_eq (tm_Mo_sporadic zz) r 73 ls st h c n
theorem st_Mo_sporadic_74 (zz : Nat × Nat) (r : mx_T) (ls : mx_L) (st : List Value) (h : mx_H) (c n : Nat) : mx_G r (t_Mo_sporadic zz) 74 ls st h c n = (o_get 10 2) r (mx_G r (t_Mo_sporadic zz)) 74 ls st h c n := mx_G_eq (tm_Mo_sporadic zz) r 74 ls st h c n
theorem st_Mo_sporadic_77 (zz : Nat × Nat) (r : mx_T) (ls : mx_L) (st : List Value) (h : mx_H) (c n : Nat) : mx_G r (t_Mo_sporadic zz) 77 ls st h c n = (o_iload 1 1) r (mx_G r (t_Mo_sporadic zz)) 77 ls st h c n := mx_G_eq (tm_Mo_sporadic zz) r 77 ls st h c n
theorem st_Mo_sporadic_78 (zz : Nat × Nat) (r : mx_T) (ls : mx_L) (st : List Value) (h : mx_H) (c n : Nat) : mx_G r (t_Mo_sporadic zz) 78 ls st h c n = (o_iald .int) r (mx_G r (t_Mo_sporadic zz)) 78 ls st h c n := mx_G_eq (tm_Mo_sporadic zz) r 78 ls st h c n
theorem st_Mo_sporadic_79 (zz : Nat × Nat) (r : mx_T) (ls : mx_L) (st : List Value) (h : mx_H) (c n : Nat) : mx_G r (t_Mo_sporadic zz) 79 ls st h c n = (o_if 105 (fun x => ¬ x = 0)) r (mx_G r (t_Mo_sporadic zz)) 79 ls st h c n := mx_G_eq (tm_Mo_sporadic zz) r 79 ls st h c n
theorem st_Mo_sporadic_82 (zz : Nat × Nat) (r : mx_T) (ls : mx_L) (st : List Value) (h : mx_H) (c n : Nat) : mx_G r (t_Mo_sporadic zz) 82 ls st h c n = (o_aload 1 0) r (mx_G r (t_Mo_sporadic zz)) 82 ls st h c n := mx_G_eq (tm_Mo_sporadic zz) r 82 ls st h c n
theorem st_Mo_sporadic_83 (zz : Nat × Nat) (r : mx_T) (ls : mx_L) (st : List Value) (h : mx_H) (c n : Nat) : mx_G r (t_Mo_sporadic zz) 83 ls st h c n = (o_get 10 2) r (mx_G r (t_Mo_sporadic zz)) 83 ls st h c n := mx_G_eq (tm_Mo_sporadic zz) r 83 ls st h c n
theorem st_Mo_sporadic_86 (zz : Nat × Nat) (r : mx_T) (ls : mx_L) (st : List Value) (h : mx_H) (c n : Nat) : mx_G r (t_Mo_sporadic zz) 86 ls st h c n = (o_iload 1 2) r (mx_G r (t_Mo_sporadic zz)) 86 ls st h c n := mx_G_eq (tm_Mo_sporadic zz) r 86 ls st h c n
theorem st_Mo_sporadic_87 (zz : Nat × Nat) (r : mx_T) (ls : mx_L) (st : List Value) (h : mx_H) (c n : Nat) : mx_G r (t_Mo_sporadic zz) 87 ls st h c n = (o_iald .int) r (mx_G r (t_Mo_sporadic zz)) 87 ls st h c n := mx_G_eq (tm_Mo_sporadic zz) r 87 ls st h c n
theorem st_Mo_sporadic_88 (zz : Nat × Nat) (r : mx_T) (ls : mx_L) (st : List Value) (h : mx_H) (c n : Nat) : mx_G r (t_Mo_sporadic zz) 88 ls st h c n = (o_if 105 (fun x => ¬ x = 0)) r (mx_G r (t_Mo_sporadic zz)) 88 ls st h c n := mx_G_eq (tm_Mo_sporadic zz) r 88 ls st h c n
theorem st_Mo_sporadic_91 (zz : Nat × Nat) (r : mx_T) (ls : mx_L) (st : List Value) (h : mx_H) (c n : Nat) : mx_G r (t_Mo_sporadic zz) 91 ls st h c n = (o_iload 2 4) r (mx_G r (t_Mo_sporadic zz)) 91 ls st h c n := mx_G_eq (tm_Mo_sporadic zz) r 91 ls st h c n
theorem st_Mo_sporadic_93 (zz : Nat × Nat) (r : mx_T) (ls : mx_L) (st : List Value) (h : mx_H) (c n : Nat) : mx_G r (t_Mo_sporadic zz) 93 ls st h c n = (o_if 107 (fun x => x = 0)) r (mx_G r (t_Mo_sporadic zz)) 93 ls st h c n := mx_G_eq (tm_Mo_sporadic zz) r 93 ls st h c n
theorem st_Mo_sporadic_96 (zz : Nat × Nat) (r : mx_T) (ls : mx_L) (st : List Value) (h : mx_H) (c n : Nat) : mx_G r (t_Mo_sporadic zz) 96 ls st h c n = (o_aload 1 0) r (mx_G r (t_Mo_sporadic zz)) 96 ls st h c n := mx_G_eq (tm_Mo_sporadic zz) r 96 ls st h c n
theorem st_Mo_sporadic_97 (zz : Nat × Nat) (r : mx_T) (ls : mx_L) (st : List Value) (h : mx_H) (c n : Nat) : mx_G r (t_Mo_sporadic zz) 97 ls st h c n = (o_get 10 2) r (mx_G r (t_Mo_sporadic zz)) 97 ls st h c n := mx_G_eq (tm_Mo_sporadic zz) r 97 ls st h c n
theorem st_Mo_sporadic_100 (zz : Nat × Nat) (r : mx_T) (ls : mx_L) (st : List Value) (h : mx_H) (c n : Nat) : mx_G r (t_Mo_sporadic zz) 100 ls st h c n = (o_iload 1 3) r (mx_G r (t_Mo_sporadic zz)) 100 ls st h c n := mx_G_eq (tm_Mo_sporadic zz) r 100 ls st h c n
theorem st_Mo_sporadic_101 (zz : Nat × Nat) (r : mx_T) (ls : mx_L) (st : List Value) (h : mx_H) (c n : Nat) : mx_G r (t_Mo_sporadic zz) 101 ls st h c n = (o_iald .int) r (mx_G r (t_Mo_sporadic zz)) 101 ls st h c n := mx_G_eq (tm_Mo_sporadic zz) r 101 ls st h c n
theorem st_Mo_sporadic_102 (zz : Nat × Nat) (r : mx_T) (ls : mx_L) (st : List Value) (h : mx_H) (c n : Nat) : mx_G r (t_Mo_sporadic zz) 102 ls st h c n = (o_if 107 (fun x => x = 0)) r (mx_G r (t_Mo_sporadic zz)) 102 ls st h c n := mx_G_eq (tm_Mo_sporadic zz) r 102 ls st h c n
theorem st_Mo_sporadic_105 (zz : Nat × Nat) (r : mx_T) (ls : mx_L) (st : List Value) (h : mx_H) (c n : Nat) : mx_G r (t_Mo_sporadic zz) 105 ls st h c n = (o_push 1 (.int (-1))) r (mx_G r (t_Mo_sporadic zz)) 105 ls st h c n := mx_G_eq (tm_Mo_sporadic zz) r 105 ls st h c n
theorem st_Mo_sporadic_106 (zz : Nat × Nat) (r : mx_T) (ls : mx_L) (st : List Value) (h : mx_H) (c n : Nat) : mx_G r (t_Mo_sporadic zz) 106 ls st h c n = (o_iret) r (mx_G r (t_Mo_sporadic zz)) 106 ls st h c n := mx_G_eq (tm_Mo_sporadic zz) r 106 ls st h c n
theorem st_Mo_sporadic_107 (zz : Nat × Nat) (r : mx_T) (ls : mx_L) (st : List Value) (h : mx_H) (c n : Nat) : mx_G r (t_Mo_sporadic zz) 107 ls st h c n = (o_aload 1 0) r (mx_G r (t_Mo_sporadic zz)) 107 ls st h c n := mx_G_eq (tm_Mo_sporadic zz) r 107 ls st h c n
theorem st_Mo_sporadic_108 (zz : Nat × Nat) (r : mx_T) (ls : mx_L) (st : List Value) (h : mx_H) (c n : Nat) : mx_G r (t_Mo_sporadic zz) 108 ls st h c n = (o_get 10 15) r (mx_G r (t_Mo_sporadic zz)) 108 ls st h c n := mx_G_eq (tm_Mo_sporadic zz) r 108 ls st h c n
theorem st_Mo_sporadic_111 (zz : Nat × Nat) (r : mx_T) (ls : mx_L) (st : List Value) (h : mx_H) (c n : Nat) : mx_G r (t_Mo_sporadic zz) 111 ls st h c n = (o_push 1 (.int 3)) r (mx_G r (t_Mo_sporadic zz)) 111 ls st h c n := mx_G_eq (tm_Mo_sporadic zz) r 111 ls st h c n
theorem st_Mo_sporadic_112 (zz : Nat × Nat) (r : mx_T) (ls : mx_L) (st : List Value) (h : mx_H) (c n : Nat) : mx_G r (t_Mo_sporadic zz) 112 ls st h c n = (o_aload 1 0) r (mx_G r (t_Mo_sporadic zz)) 112 ls st h c n := mx_G_eq (tm_Mo_sporadic zz) r 112 ls st h c n
theorem st_Mo_sporadic_113 (zz : Nat × Nat) (r : mx_T) (ls : mx_L) (st : List Value) (h : mx_H) (c n : Nat) : mx_G r (t_Mo_sporadic zz) 113 ls st h c n = (o_get 10 14) r (mx_G r (t_Mo_sporadic zz)) 113 ls st h c n := mx_G_eq (tm_Mo_sporadic zz) r 113 ls st h c n
theorem st_Mo_sporadic_116 (zz : Nat × Nat) (r : mx_T) (ls : mx_L) (st : List Value) (h : mx_H) (c n : Nat) : mx_G r (t_Mo_sporadic zz) 116 ls st h c n = (o_ii (fun x y => x * y)) r (mx_G r (t_Mo_sporadic zz)) 116 ls st h c n := mx_G_eq (tm_Mo_sporadic zz) r 116 ls st h c n
theorem st_Mo_sporadic_117 (zz : Nat × Nat) (r : mx_T) (ls : mx_L) (st : List Value) (h : mx_H) (c n : Nat) : mx_G r (t_Mo_sporadic zz) 117 ls st h c n = (o_iload 1 1) r (mx_G r (t_Mo_sporadic zz)) 117 ls st h c n := mx_G_eq (tm_Mo_sporadic zz) r 117 ls st h c n
theorem st_Mo_sporadic_118 (zz : Nat × Nat) (r : mx_T) (ls : mx_L) (st : List Value) (h : mx_H) (c n : Nat) : mx_G r (t_Mo_sporadic zz) 118 ls st h c n = (o_iast .int (fun x => x)) r (mx_G r (t_Mo_sporadic zz)) 118 ls st h c n := mx_G_eq (tm_Mo_sporadic zz) r 118 ls st h c n
theorem st_Mo_sporadic_119 (zz : Nat × Nat) (r : mx_T) (ls : mx_L) (st : List Value) (h : mx_H) (c n : Nat) : mx_G r (t_Mo_sporadic zz) 119 ls st h c n = (o_aload 1 0) r (mx_G r (t_Mo_sporadic zz)) 119 ls st h c n := mx_G_eq (tm_Mo_sporadic zz) r 119 ls st h c n
theorem st_Mo_sporadic_120 (zz : Nat × Nat) (r : mx_T) (ls : mx_L) (st : List Value) (h : mx_H) (c n : Nat) : mx_G r (t_Mo_sporadic zz) 120 ls st h c n = (o_get 10 15) r (mx_G r (t_Mo_sporadic zz)) 120 ls st h c n := mx_G_eq (tm_Mo_sporadic zz) r 120 ls st h c n
theorem st_Mo_sporadic_123 (zz : Nat × Nat) (r : mx_T) (ls : mx_L) (st : List Value) (h : mx_H) (c n : Nat) : mx_G r (t_Mo_sporadic zz) 123 ls st h c n = (o_push 1 (.int 3)) r (mx_G r (t_Mo_sporadic zz)) 123 ls st h c n := mx_G_eq (tm_Mo_sporadic zz) r 123 ls st h c n
theorem st_Mo_sporadic_124 (zz : Nat × Nat) (r : mx_T) (ls : mx_L) (st : List Value) (h : mx_H) (c n : Nat) : mx_G r (t_Mo_sporadic zz) 124 ls st h c n = (o_aload 1 0) r (mx_G r (t_Mo_sporadic zz)) 124 ls st h c n := mx_G_eq (tm_Mo_sporadic zz) r 124 ls st h c n
theorem st_Mo_sporadic_125 (zz : Nat × Nat) (r : mx_T) (ls : mx_L) (st : List Value) (h : mx_H) (c n : Nat) : mx_G r (t_Mo_sporadic zz) 125 ls st h c n = (o_get 10 14) r (mx_G r (t_Mo_sporadic zz)) 125 ls st h c n := mx_G_eq (tm_Mo_sporadic zz) r 125 ls st h c n
theorem st_Mo_sporadic_128 (zz : Nat × Nat) (r : mx_T) (ls : mx_L) (st : List Value) (h : mx_H) (c n : Nat) : mx_G r (t_Mo_sporadic zz) 128 ls st h c n = (o_ii (fun x y => x * y)) r (mx_G r (t_Mo_sporadic zz)) 128 ls st h c n := mx_G_eq (tm_Mo_sporadic zz) r 128 ls st h c n
theorem st_Mo_sporadic_129 (zz : Nat × Nat) (r : mx_T) (ls : mx_L) (st : List Value) (h : mx_H) (c n : Nat) : mx_G r (t_Mo_sporadic zz) 129 ls st h c n = (o_push 1 (.int 1)) r (mx_G r (t_Mo_sporadic zz)) 129 ls st h c n := mx_G_eq (tm_Mo_sporadic zz) r 129 ls st h c n
theorem st_Mo_sporadic_130 (zz : Nat × Nat) (r : mx_T) (ls : mx_L) (st : List Value) (h : mx_H) (c n : Nat) : mx_G r (t_Mo_sporadic zz) 130 ls st h c n = (o_ii (fun x y => x + y)) r (mx_G r (t_Mo_sporadic zz)) 130 ls st h c n := mx_G_eq (tm_Mo_sporadic zz) r 130 ls st h c n
theorem st_Mo_sporadic_131 (zz : Nat × Nat) (r : mx_T) (ls : mx_L) (st : List Value) (h : mx_H) (c n : Nat) : mx_G r (t_Mo_sporadic zz) 131 ls st h c n = (o_iload 1 2) r (mx_G r (t_Mo_sporadic zz)) 131 ls st h c n := mx_G_eq (tm_Mo_sporadic zz) r 131 ls st h c n
theorem st_Mo_sporadic_132 (zz : Nat × Nat) (r : mx_T) (ls : mx_L) (st : List Value) (h : mx_H) (c n : Nat) : mx_G r (t_Mo_sporadic zz) 132 ls st h c n = (o_iast .int (fun x => x)) r (mx_G r (t_Mo_sporadic zz)) 132 ls st h c n := mx_G_eq (tm_Mo_sporadic zz) r 132 ls st h c n
theorem st_Mo_sporadic_133 (zz : Nat × Nat) (r : mx_T) (ls : mx_L) (st : List Value) (h : mx_H) (c n : Nat) : mx_G r (t_Mo_sporadic zz) 133 ls st h c n = (o_aload 1 0) r (mx_G r (t_Mo_sporadic zz)) 133 ls st h c n := mx_G_eq (tm_Mo_sporadic zz) r 133 ls st h c n
theorem st_Mo_sporadic_134 (zz : Nat × Nat) (r : mx_T) (ls : mx_L) (st : List Value) (h : mx_H) (c n : Nat) : mx_G r (t_Mo_sporadic zz) 134 ls st h c n = (o_get 10 15) r (mx_G r (t_Mo_sporadic zz)) 134 ls st h c n := mx_G_eq (tm_Mo_sporadic zz) r 134 ls st h c n
theorem st_Mo_sporadic_137 (zz : Nat × Nat) (r : mx_T) (ls : mx_L) (st : List Value) (h : mx_H) (c n : Nat) : mx_G r (t_Mo_sporadic zz) 137 ls st h c n = (o_push 1 (.int 3)) r (mx_G r (t_Mo_sporadic zz)) 137 ls st h c n := mx_G_eq (tm_Mo_sporadic zz) r 137 ls st h c n
theorem st_Mo_sporadic_138 (zz : Nat × Nat) (r : mx_T) (ls : mx_L) (st : List Value) (h : mx_H) (c n : Nat) : mx_G r (t_Mo_sporadic zz) 138 ls st h c n = (o_aload 1 0) r (mx_G r (t_Mo_sporadic zz)) 138 ls st h c n := mx_G_eq (tm_Mo_sporadic zz) r 138 ls st h c n
theorem st_Mo_sporadic_139 (zz : Nat × Nat) (r : mx_T) (ls : mx_L) (st : List Value) (h : mx_H) (c n : Nat) : mx_G r (t_Mo_sporadic zz) 139 ls st h c n = (o_get 10 14) r (mx_G r (t_Mo_sporadic zz)) 139 ls st h c n := mx_G_eq (tm_Mo_sporadic zz) r 139 ls st h c n
theorem st_Mo_sporadic_142 (zz : Nat × Nat) (r : mx_T) (ls : mx_L) (st : List Value) (h : mx_H) (c n : Nat) : mx_G r (t_Mo_sporadic zz) 142 ls st h c n = (o_ii (fun x y => x * y)) r (mx_G r (t_Mo_sporadic zz)) 142 ls st h c n := mx_G_eq (tm_Mo_sporadic zz) r 142 ls st h c n
theorem st_Mo_sporadic_143 (zz : Nat × Nat) (r : mx_T) (ls : mx_L) (st : List Value) (h : mx_H) (c n : Nat) : mx_G r (t_Mo_sporadic zz) 143 ls st h c n = (o_push 1 (.int 2)) r (mx_G r (t_Mo_sporadic zz)) 143 ls st h c n := mx_G_eq (tm_Mo_sporadic zz) r 143 ls st h c n
theorem st_Mo_sporadic_144 (zz : Nat × Nat) (r : mx_T) (ls : mx_L) (st : List Value) (h : mx_H) (c n : Nat) : mx_G r (t_Mo_sporadic zz) 144 ls st h c n = (o_ii (fun x y => x + y)) r (mx_G r (t_Mo_sporadic zz)) 144 ls st h c n := mx_G_eq (tm_Mo_sporadic zz) r 144 ls st h c n
theorem st_Mo_sporadic_145 (zz : Nat × Nat) (r : mx_T) (ls : mx_L) (st : List Value) (h : mx_H) (c n : Nat) : mx_G r (t_Mo_sporadic zz) 145 ls st h c n = (o_iload 1 3) r (mx_G r (t_Mo_sporadic zz)) 145 ls st h c n := mx_G_eq (tm_Mo_sporadic zz) r 145 ls st h c n
theorem st_Mo_sporadic_146 (zz : Nat × Nat) (r : mx_T) (ls : mx_L) (st : List Value) (h : mx_H) (c n : Nat) : mx_G r (t_Mo_sporadic zz) 146 ls st h c n = (o_iast .int (fun x => x)) r (mx_G r (t_Mo_sporadic zz)) 146 ls st h c n := mx_G_eq (tm_Mo_sporadic zz) r 146 ls st h c n
theorem st_Mo_sporadic_147 (zz : Nat × Nat) (r : mx_T) (ls : mx_L) (st : List Value) (h : mx_H) (c n : Nat) : mx_G r (t_Mo_sporadic zz) 147 ls st h c n = (o_aload 1 0) r (mx_G r (t_Mo_sporadic zz)) 147 ls st h c n := mx_G_eq (tm_Mo_sporadic zz) r 147 ls st h c n
theorem st_Mo_sporadic_148 (zz : Nat × Nat) (r : mx_T) (ls : mx_L) (st : List Value) (h : mx_H) (c n : Nat) : mx_G r (t_Mo_sporadic zz) 148 ls st h c n = (o_dup) r (mx_G r (t_Mo_sporadic zz)) 148 ls st h c n := mx_G_eq (tm_Mo_sporadic zz) r 148 ls st h c n
theorem st_Mo_sporadic_149 (zz : Nat × Nat) (r : mx_T) (ls : mx_L) (st : List Value) (h : mx_H) (c n : Nat) : mx_G r (t_Mo_sporadic zz) 149 ls st h c n = (o_get 10 14) r (mx_G r (t_Mo_sporadic zz)) 149 ls st h c n := mx_G_eq (tm_Mo_sporadic zz) r 149 ls st h c n
theorem st_Mo_sporadic_152 (zz : Nat × Nat) (r : mx_T) (ls : mx_L) (st : List Value) (h : mx_H) (c n : Nat) : mx_G r (t_Mo_sporadic zz) 152 ls st h c n = (o_push 1 (.int 1)) r (mx_G r (t_Mo_sporadic zz)) 152 ls st h c n := mx_G_eq (tm_Mo_sporadic zz) r 152 ls st h c n
theorem st_Mo_sporadic_153 (zz : Nat × Nat) (r : mx_T) (ls : mx_L) (st : List Value) (h : mx_H) (c n : Nat) : mx_G r (t_Mo_sporadic zz) 153 ls st h c n = (o_ii (fun x y => x + y)) r (mx_G r (t_Mo_sporadic zz)) 153 ls st h c n := mx_G_eq (tm_Mo_sporadic zz) r 153 ls st h c n
set_option maxRecDepth 20000 in
theorem st_Mo_sporadic_154 (zz : Nat × Nat) (r : mx_T) (ls : mx_L) (st : List Value) (h : mx_H) (c n : Nat) : mx_G r (t_Mo_sporadic zz) 154 ls st h c n = (o_put 10 14 mx_vI) r (mx_G r (t_Mo_sporadic zz)) 154 ls st h c n := mx_G_eq (tm_Mo_sporadic zz) r 154 ls st h c n
set_option maxRecDepth 20000 in
theorem st_Mo_sporadic_157 (zz : Nat × Nat) (r : mx_T) (ls : mx_L) (st : List Value) (h : mx_H) (c n : Nat) : mx_G r (t_Mo_sporadic zz) 157 ls st h c n = (o_aload 1 0) r (mx_G r (t_Mo_sporadic zz)) 157 ls st h c n := mx_G_eq (tm_Mo_sporadic zz) r 157 ls st h c n
set_option maxRecDepth 20000 in
theorem st_Mo_sporadic_158 (zz : Nat × Nat) (r : mx_T) (ls : mx_L) (st : List Value) (h : mx_H) (c n : Nat) : mx_G r (t_Mo_sporadic zz) 158 ls st h c n = (o_get 10 14) r (mx_G r (t_Mo_sporadic zz)) 158 ls st h c n := mx_G_eq (tm_Mo_sporadic zz) r 158 ls st h c n
set_option maxRecDepth 20000 in
theorem st_Mo_sporadic_161 (zz : Nat × Nat) (r : mx_T) (ls : mx_L) (st : List Value) (h : mx_H) (c n : Nat) : mx_G r (t_Mo_sporadic zz) 161 ls st h c n = (o_push 1 (.int 1)) r (mx_G r (t_Mo_sporadic zz)) 161 ls st h c n := mx_G_eq (tm_Mo_sporadic zz) r 161 ls st h c n
set_option maxRecDepth 20000 in
theorem st_Mo_sporadic_162 (zz : Nat × Nat) (r : mx_T) (ls : mx_L) (st : List Value) (h : mx_H) (c n : Nat) : mx_G r (t_Mo_sporadic zz) 162 ls st h c n = (o_ii (fun x y => x - y)) r (mx_G r (t_Mo_sporadic zz)) 162 ls st h c n := mx_G_eq (tm_Mo_sporadic zz) r 162 ls st h c n
set_option maxRecDepth 20000 in
theorem st_Mo_sporadic_163 (zz : Nat × Nat) (r : mx_T) (ls : mx_L) (st : List Value) (h : mx_H) (c n : Nat) : mx_G r (t_Mo_sporadic zz) 163 ls st h c n = (o_iret) r (mx_G r (t_Mo_sporadic zz)) 163 ls st h c n := mx_G_eq (tm_Mo_sporadic zz) r 163 ls st h c n
theorem d_Mo_free_0 : decode c_Mo_free 0 = .ok (.aload_n 0, 1) := by decide +kernel
theorem d_Mo_free_1 : decode c_Mo_free 1 = .ok (.iload_n 1, 1) := by decide +kernel
theorem d_Mo_free_2 : decode c_Mo_free 2 = .ok (.invokevirtual 112, 3) := by decide +kernel
theorem d_Mo_free_5 : decode c_Mo_free 5 = .ok (.ifCond .eq 25, 3) := by decide +kernel
theorem d_Mo_free_8 : decode c_Mo_free 8 = .ok (.aload_n 0, 1) := by decide +kernel
theorem d_Mo_free_9 : decode c_Mo_free 9 = .ok (.getfield 26, 3) := by decide +kernel
theorem d_Mo_free_12 : decode c_Mo_free 12 = .ok (.iload_n 1, 1) := by decide +kernel
theorem d_Mo_free_13 : decode c_Mo_free 13 = .ok (.iaload, 1) := by decide +kernel
theorem d_Mo_free_14 : decode c_Mo_free 14 = .ok (.ifCond .ne 16, 3) := by decide +kernel
theorem d_Mo_free_17 : decode c_Mo_free 17 = .ok (.aload_n 0, 1) := by decide +kernel
theorem d_Mo_free_18 : decode c_Mo_free 18 = .ok (.getfield 13, 3) := by decide +kernel
theorem d_Mo_free_21 : decode c_Mo_free 21 = .ok (.iload_n 1, 1) := by decide +kernel
theorem d_Mo_free_22 : decode c_Mo_free 22 = .ok (.iaload, 1) := by decide +kernel
theorem d_Mo_free_23 : decode c_Mo_free 23 = .ok (.ifCond .eq 7, 3) := by decide +kernel
theorem d_Mo_free_26 : decode c_Mo_free 26 = .ok (.iconst 1, 1) := by decide +kernel
theorem d_Mo_free_27 : decode c_Mo_free 27 = .ok (.goto 4, 3) := by decide +kernel
theorem d_Mo_free_30 : decode c_Mo_free 30 = .ok (.iconst 0, 1) := by decide +kernel
theorem d_Mo_free_31 : decode c_Mo_free 31 = .ok (.istore_n 2, 1) := by decide +kernel
theorem d_Mo_free_32 : decode c_Mo_free 32 = .ok (.iconst 0, 1) := by decide +kernel
theorem d_Mo_free_33 : decode c_Mo_free 33 = .ok (.istore_n 3, 1) := by decide +kernel
theorem d_Mo_free_34 : decode c_Mo_free 34 = .ok (.iload_n 3, 1) := by decide +kernel
theorem d_Mo_free_35 : decode c_Mo_free 35 = .ok (.bipush 8, 2) := by decide +kernel
theorem d_Mo_free_37 : decode c_Mo_free 37 = .ok (.if_icmp .ge 28, 3) := by decide +kernel
theorem d_Mo_free_40 : decode c_Mo_free 40 = .ok (.iload_n 2, 1) := by decide +kernel
theorem d_Mo_free_41 : decode c_Mo_free 41 = .ok (.ifCond .eq 16, 3) := by decide +kernel
theorem d_Mo_free_44 : decode c_Mo_free 44 = .ok (.aload_n 0, 1) := by decide +kernel
theorem d_Mo_free_45 : decode c_Mo_free 45 = .ok (.iload_n 1, 1) := by decide +kernel
theorem d_Mo_free_46 : decode c_Mo_free 46 = .ok (.iload_n 3, 1) := by decide +kernel
theorem d_Mo_free_47 : decode c_Mo_free 47 = .ok (.invokevirtual 106, 3) := by decide +kernel
theorem d_Mo_free_50 : decode c_Mo_free 50 = .ok (.ifCond .ne 7, 3) := by decide +kernel
theorem d_Mo_free_53 : decode c_Mo_free 53 = .ok (.iconst 1, 1) := by decide +kernel
theorem d_Mo_free_54 : decode c_Mo_free 54 = .ok (.goto 4, 3) := by decide +kernel
theorem d_Mo_free_57 : decode c_Mo_free 57 = .ok (.iconst 0, 1) := by decide +kernel
theorem d_Mo_free_58 : decode c_Mo_free 58 = .ok (.istore_n 2, 1) := by decide +kernel
theorem d_Mo_free_59 : decode c_Mo_free 59 = .ok (.iinc 3 1, 3) := by decide +kernel
theorem d_Mo_free_62 : decode c_Mo_free 62 = .ok (.goto (-28), 3) := by decide +kernel
theorem d_Mo_free_65 : decode c_Mo_free 65 = .ok (.iload_n 2, 1) := by decide +kernel
theorem d_Mo_free_66 : decode c_Mo_free 66 = .ok (.ireturn, 1) := by decide +kernel
def t_Mo_free (zz : Nat × Nat) : List (Nat × mx_O) := [(0, o_aload 1 0),
  (1, o_iload 1 1),
  (2, o_call 0 0 2 0 0 (mx_rv 10) (S_Mo_exists zz)),
  (5, o_if 30 (fun x => x = 0)),
  (8, o_aload 1 0),
  (9, o_get 10 6),
  (12, o_iload 1 1),
  (13, o_iald .int),
  (14, o_if 30 (fun x => ¬ x = 0)),
  (17, o_aload 1 0),
  (18, o_get 10 2),
  (21, o_iload 1 1),
  (22, o_iald .int),
  (23, o_if 30 (fun x => x = 0)),
  (26, o_push 1 (.int 1)),
  (27, o_goto 31),
  (30, o_push 1 (.int 0)),
  (31, o_istore 1 2),
  (32, o_push 1 (.int 0)),
  (33, o_istore 1 3),
  (34, o_iload 1 3),
  (35, o_push 2 (.int 8)),
  (37, o_icmp 65 (fun x y => y ≤ x)),
  (40, o_iload 1 2),
  (41, o_if 57 (fun x => x = 0)),
  (44, o_aload 1 0),
  (45, o_iload 1 1),
  (46, o_iload 1 3),
  (47, o_call 0 0 3 0 0 (mx_rv 10) (S_Mo_bitTaken zz)),
  (50, o_if 57 (fun x => ¬ x = 0)),
  (53, o_push 1 (.int 1)),
  (54, o_goto 58),
  (57, o_push 1 (.int 0)),
  (58, o_istore 1 2),
  (59, o_iinc 3 1),
  (62, o_goto 34),
  (65, o_iload 1 2),
  (66, o_zret)]
set_option maxRecDepth 100000 in
theorem tm_Mo_free (zz : Nat × Nat) : mx_All (fun _ o => mx_Mono o) (t_Mo_free zz) := by
  refine mx_all_cons (mo_st) ?_
  refine mx_all_cons (mo_st) ?_
  refine mx_all_cons (mo_call (sm_Mo_exists zz)) ?_
  refine mx_all_cons (mo_br) ?_
  refine mx_all_cons (mo_st) ?_
  refine mx_all_cons (mo_st) ?_
  refine mx_all_cons (mo_st) ?_
  refine mx_all_cons (mo_sc) ?_
  refine mx_all_cons (mo_br) ?_
  refine mx_all_cons (mo_st) ?_
  refine mx_all_cons (mo_st) ?_
  refine mx_all_cons (mo_st) ?_
  refine mx_all_cons (mo_sc) ?_
  refine mx_all_cons (mo_br) ?_
  refine mx_all_cons (mo_st) ?_
  refine mx_all_cons (mo_st) ?_
  refine mx_all_cons (mo_st) ?_
  refine mx_all_cons (mo_st) ?_
  refine mx_all_cons (mo_st) ?_
  refine mx_all_cons (mo_st) ?_
  refine mx_all_cons (mo_st) ?_
  refine mx_all_cons (mo_st) ?_
  refine mx_all_cons (mo_br) ?_
  refine mx_all_cons (mo_st) ?_
  refine mx_all_cons (mo_br) ?_
  refine mx_all_cons (mo_st) ?_
  refine mx_all_cons (mo_st) ?_
  refine mx_all_cons (mo_st) ?_
  refine mx_all_cons (mo_call (sm_Mo_bitTaken zz)) ?_
  refine mx_all_cons (mo_br) ?_
  refine mx_all_cons (mo_st) ?_
  refine mx_all_cons (mo_st) ?_
  refine mx_all_cons (mo_st) ?_
  refine mx_all_cons (mo_st) ?_
  refine mx_all_cons (mo_st) ?_
  refine mx_all_cons (mo_st) ?_
  refine mx_all_cons (mo_st) ?_
  refine mx_all_cons (mo_zret) ?_
  exact mx_all_nil
def S_Mo_free (zz : Nat × Nat) : mx_Sp := mx_S 4 0 0 (t_Mo_free zz)
theorem sm_Mo_free (zz : Nat × Nat) : mx_SMono (S_Mo_free zz) := mx_S_mono (tm_Mo_free zz)
abbrev rm_Mo_free : Room := { frames := 2, cells := 0, slots := 0, locals := 46 }
set_option maxHeartbeats 4000000 in
set_option maxRecDepth 100000 in
theorem m_Mo_free (l : Launch) (zz : Nat × Nat) : mx_Met l y_Mo_free (wsOf y_Mo_free c_Mo_free 4 (some .boolean)) rm_Mo_free wcl (mx_Z zz) 0 0 (S_Mo_free zz) := by
  refine mx_met (cc := c_Mo_free) (ret := (some .boolean)) (by decide) rfl ?_
  intro p e s m args below meth c D A Post X hz hr hlk hnm
  have hm : ∀ w ∈ mw, w.before args s = true := fun w h => X.1.2.2.2.2 w (List.mem_cons_of_mem _ h)
  refine mx_all_cons (ok_aload (fun hl kk => lv_aload_n X.1.1 X.1.2.1 d_Mo_free_0 rfl hl kk) (fun hl kk => lv_aload_nN X.1.1 X.1.2.1 d_Mo_free_0 rfl hl kk)) ?_
  refine mx_all_cons (ok_iload (fun hl kk => lv_iload_n X.1.1 X.1.2.1 d_Mo_free_1 rfl hl kk)) ?_
  refine mx_all_cons (ok_callV (C := "HeaderScheduleModel") (T := T_Mo) (N := 40) X (mx_Zok_Z zz) hz ⟨(Nat.le_of_ble_eq_true rfl), (Nat.le_of_ble_eq_true rfl)⟩ (m_Mo_exists l zz) ⟨mx_cwB 1 hm w828 w825 w40 rfl rfl (by decide +kernel) ⟨(Nat.le_of_ble_eq_true rfl), (Nat.le_of_ble_eq_true rfl)⟩, (hm _ w827), hm _ w19⟩ rfl d_Mo_free_2) ?_
  refine mx_all_cons (ok_if (fun kt kf => lv_if_eq X.1.1 X.1.2.1 d_Mo_free_5 (by decide) kt kf)) ?_
  refine mx_all_cons (ok_aload (fun hl kk => lv_aload_n X.1.1 X.1.2.1 d_Mo_free_8 rfl hl kk) (fun hl kk => lv_aload_nN X.1.1 X.1.2.1 d_Mo_free_8 rfl hl kk)) ?_
  refine mx_all_cons (ok_get (C := "HeaderScheduleModel") (T := T_Mo) (N := 40) X (mw_up in_Mo) rfl 6 (by decide) (hm _ w683) (fun _ h9 => h9) d_Mo_free_9) ?_
  refine mx_all_cons (ok_iload (fun hl kk => lv_iload_n X.1.1 X.1.2.1 d_Mo_free_12 rfl hl kk)) ?_
  refine mx_all_cons (ok_iald X d_Mo_free_13) ?_
  refine mx_all_cons (ok_if (fun kt kf => lv_if_ne X.1.1 X.1.2.1 d_Mo_free_14 (by decide) kt (fun z => kf (fun g => g z)))) ?_
  refine mx_all_cons (ok_aload (fun hl kk => lv_aload_n X.1.1 X.1.2.1 d_Mo_free_17 rfl hl kk) (fun hl kk => lv_aload_nN X.1.1 X.1.2.1 d_Mo_free_17 rfl hl kk)) ?_
  refine mx_all_cons (ok_get (C := "HeaderScheduleModel") (T := T_Mo) (N := 40) X (mw_up in_Mo) rfl 2 (by decide) (hm _ w679) (fun _ h9 => h9) d_Mo_free_18) ?_
  refine mx_all_cons (ok_iload (fun hl kk => lv_iload_n X.1.1 X.1.2.1 d_Mo_free_21 rfl hl kk)) ?_
  refine mx_all_cons (ok_iald X d_Mo_free_22) ?_
  refine mx_all_cons (ok_if (fun kt kf => lv_if_eq X.1.1 X.1.2.1 d_Mo_free_23 (by decide) kt kf)) ?_
  refine mx_all_cons (ok_push (fun kk => lv_iconst X.1.1 X.1.2.1 d_Mo_free_26 (by decide) kk)) ?_
  refine mx_all_cons (ok_goto X d_Mo_free_27 (by decide)) ?_
  refine mx_all_cons (ok_push (fun kk => lv_iconst X.1.1 X.1.2.1 d_Mo_free_30 (by decide) kk)) ?_
  refine mx_all_cons (ok_istore (fun hl kk => lv_istore_n X.1.1 X.1.2.1 d_Mo_free_31 rfl hl (by decide) rfl kk)) ?_
  refine mx_all_cons (ok_push (fun kk => lv_iconst X.1.1 X.1.2.1 d_Mo_free_32 (by decide) kk)) ?_
  refine mx_all_cons (ok_istore (fun hl kk => lv_istore_n X.1.1 X.1.2.1 d_Mo_free_33 rfl hl (by decide) rfl kk)) ?_
  refine mx_all_cons (ok_iload (fun hl kk => lv_iload_n X.1.1 X.1.2.1 d_Mo_free_34 rfl hl kk)) ?_
  refine mx_all_cons (ok_push (fun kk => lv_bipush X.1.1 X.1.2.1 d_Mo_free_35 (by decide) kk)) ?_
  refine mx_all_cons (ok_icmp (fun kt kf => lv_icmp_ge X.1.1 X.1.2.1 d_Mo_free_37 (by decide) kt kf)) ?_
  refine mx_all_cons (ok_iload (fun hl kk => lv_iload_n X.1.1 X.1.2.1 d_Mo_free_40 rfl hl kk)) ?_
  refine mx_all_cons (ok_if (fun kt kf => lv_if_eq X.1.1 X.1.2.1 d_Mo_free_41 (by decide) kt kf)) ?_
  refine mx_all_cons (ok_aload (fun hl kk => lv_aload_n X.1.1 X.1.2.1 d_Mo_free_44 rfl hl kk) (fun hl kk => lv_aload_nN X.1.1 X.1.2.1 d_Mo_free_44 rfl hl kk)) ?_
  refine mx_all_cons (ok_iload (fun hl kk => lv_iload_n X.1.1 X.1.2.1 d_Mo_free_45 rfl hl kk)) ?_
  refine mx_all_cons (ok_iload (fun hl kk => lv_iload_n X.1.1 X.1.2.1 d_Mo_free_46 rfl hl kk)) ?_
  refine mx_all_cons (ok_callV (C := "HeaderScheduleModel") (T := T_Mo) (N := 40) X (mx_Zok_Z zz) hz ⟨(Nat.le_of_ble_eq_true rfl), (Nat.le_of_ble_eq_true rfl)⟩ (m_Mo_bitTaken l zz) ⟨mx_cwB 2 hm w816 w813 w40 rfl rfl (by decide +kernel) ⟨(Nat.le_of_ble_eq_true rfl), (Nat.le_of_ble_eq_true rfl)⟩, (hm _ w815), hm _ w17⟩ rfl d_Mo_free_47) ?_
  refine mx_all_cons (ok_if (fun kt kf => lv_if_ne X.1.1 X.1.2.1 d_Mo_free_50 (by decide) kt (fun z => kf (fun g => g z)))) ?_
  refine mx_all_cons (ok_push (fun kk => lv_iconst X.1.1 X.1.2.1 d_Mo_free_53 (by decide) kk)) ?_
  refine mx_all_cons (ok_goto X d_Mo_free_54 (by decide)) ?_
  refine mx_all_cons (ok_push (fun kk => lv_iconst X.1.1 X.1.2.1 d_Mo_free_57 (by decide) kk)) ?_
  refine mx_all_cons (ok_istore (fun hl kk => lv_istore_n X.1.1 X.1.2.1 d_Mo_free_58 rfl hl (by decide) rfl kk)) ?_
  refine mx_all_cons (ok_iinc X (by decide) (by decide) d_Mo_free_59) ?_
  refine mx_all_cons (ok_goto X d_Mo_free_62 (by decide)) ?_
  refine mx_all_cons (ok_iload (fun hl kk => lv_iload_n X.1.1 X.1.2.1 d_Mo_free_65 rfl hl kk)) ?_
  refine mx_all_cons (ok_zret X hr hlk d_Mo_free_66) ?_
  exact mx_all_nil
theorem st_Mo_free_0 (zz : Nat × Nat) (r : mx_T) (ls : mx_L) (st : List Value) (h : mx_H) (c n : Nat) : mx_G r (t_Mo_free zz) 0 ls st h c n = (o_aload 1 0) r (mx_G r (t_Mo_free zz)) 0 ls st h c n := mx_G_eq (tm_Mo_free zz) r 0 ls st h c n
theorem st_Mo_free_1 (zz : Nat × Nat) (r : mx_T) (ls : mx_L) (st : List Value) (h : mx_H) (c n : Nat) : mx_G r (t_Mo_free zz) 1 ls st h c n = (o_iload 1 1) r (mx_G r (t_Mo_free zz)) 1 ls st h c n := mx_G_eq (tm_Mo_free zz) r 1 ls st h c n
theorem st_Mo_free_2 (zz : Nat × Nat) (r : mx_T) (ls : mx_L) (st : List Value) (h : mx_H) (c n : Nat) : mx_G r (t_Mo_free zz) 2 ls st h c n = (o_call 0 0 2 0 0 (mx_rv 10) (S_Mo_exists zz)) r (mx_G r (t_Mo_free zz)) 2 ls st h c n := mx_G_eq (tm_Mo_free zz) r 2 ls st h c n
theorem st_Mo_free_5 (zz : Nat × Nat) (r : mx_T) (ls : mx_L) (st : List Value) (h : mx_H) (c n : Nat) : mx_G r (t_Mo_free zz) 5 ls st h c n = (o_if 30 (fun x => x = 0)) r (mx_G r (t_Mo_free zz)) 5 ls st h c n := mx_G_eq (tm_Mo_free zz) r 5 ls st h c n
theorem st_Mo_free_8 (zz : Nat × Nat) (r : mx_T) (ls : mx_L) (st : List Value) (h : mx_H) (c n : Nat) : mx_G r (t_Mo_free zz) 8 ls st h c n = (o_aload 1 0) r (mx_G r (t_Mo_free zz)) 8 ls st h c n := mx_G_eq (tm_Mo_free zz) r 8 ls st h c n
theorem st_Mo_free_9 (zz : Nat × Nat) (r : mx_T) (ls : mx_L) (st : List Value) (h : mx_H) (c n : Nat) : mx_G r (t_Mo_free zz) 9 ls st h c n = (o_get 10 6) r (mx_G r (t_Mo_free zz)) 9 ls st h c n := mx_G_eq (tm_Mo_free zz) r 9 ls st h c n
theorem st_Mo_free_12 (zz : Nat × Nat) (r : mx_T) (ls : mx_L) (st : List Value) (h : mx_H) (c n : Nat) : mx_G r (t_Mo_free zz) 12 ls st h c n = (o_iload 1 1) r (mx_G r (t_Mo_free zz)) 12 ls st h c n := mx_G_eq (tm_Mo_free zz) r 12 ls st h c n
theorem st_Mo_free_13 (zz : Nat × Nat) (r : mx_T) (ls : mx_L) (st : List Value) (h : mx_H) (c n : Nat) : mx_G r (t_Mo_free zz) 13 ls st h c n = (o_iald .int) r (mx_G r (t_Mo_free zz)) 13 ls st h c n := mx_G_eq (tm_Mo_free zz) r 13 ls st h c n
theorem st_Mo_free_14 (zz : Nat × Nat) (r : mx_T) (ls : mx_L) (st : List Value) (h : mx_H) (c n : Nat) : mx_G r (t_Mo_free zz) 14 ls st h c n = (o_if 30 (fun x => ¬ x = 0)) r (mx_G r (t_Mo_free zz)) 14 ls st h c n := mx_G_eq (tm_Mo_free zz) r 14 ls st h c n
theorem st_Mo_free_17 (zz : Nat × Nat) (r : mx_T) (ls : mx_L) (st : List Value) (h : mx_H) (c n : Nat) : mx_G r (t_Mo_free zz) 17 ls st h c n = (o_aload 1 0) r (mx_G r (t_Mo_free zz)) 17 ls st h c n := mx_G_eq (tm_Mo_free zz) r 17 ls st h c n
theorem st_Mo_free_18 (zz : Nat × Nat) (r : mx_T) (ls : mx_L) (st : List Value) (h : mx_H) (c n : Nat) : mx_G r (t_Mo_free zz) 18 ls st h c n = (o_get 10 2) r (mx_G r (t_Mo_free zz)) 18 ls st h c n := mx_G_eq (tm_Mo_free zz) r 18 ls st h c n
theorem st_Mo_free_21 (zz : Nat × Nat) (r : mx_T) (ls : mx_L) (st : List Value) (h : mx_H) (c n : Nat) : mx_G r (t_Mo_free zz) 21 ls st h c n = (o_iload 1 1) r (mx_G r (t_Mo_free zz)) 21 ls st h c n := mx_G_eq (tm_Mo_free zz) r 21 ls st h c n
theorem st_Mo_free_22 (zz : Nat × Nat) (r : mx_T) (ls : mx_L) (st : List Value) (h : mx_H) (c n : Nat) : mx_G r (t_Mo_free zz) 22 ls st h c n = (o_iald .int) r (mx_G r (t_Mo_free zz)) 22 ls st h c n := mx_G_eq (tm_Mo_free zz) r 22 ls st h c n
theorem st_Mo_free_23 (zz : Nat × Nat) (r : mx_T) (ls : mx_L) (st : List Value) (h : mx_H) (c n : Nat) : mx_G r (t_Mo_free zz) 23 ls st h c n = (o_if 30 (fun x => x = 0)) r (mx_G r (t_Mo_free zz)) 23 ls st h c n := mx_G_eq (tm_Mo_free zz) r 23 ls st h c n
theorem st_Mo_free_26 (zz : Nat × Nat) (r : mx_T) (ls : mx_L) (st : List Value) (h : mx_H) (c n : Nat) : mx_G r (t_Mo_free zz) 26 ls st h c n = (o_push 1 (.int 1)) r (mx_G r (t_Mo_free zz)) 26 ls st h c n := mx_G_eq (tm_Mo_free zz) r 26 ls st h c n
theorem st_Mo_free_27 (zz : Nat × Nat) (r : mx_T) (ls : mx_L) (st : List Value) (h : mx_H) (c n : Nat) : mx_G r (t_Mo_free zz) 27 ls st h c n = (o_goto 31) r (mx_G r (t_Mo_free zz)) 27 ls st h c n := mx_G_eq (tm_Mo_free zz) r 27 ls st h c n
theorem st_Mo_free_30 (zz : Nat × Nat) (r : mx_T) (ls : mx_L) (st : List Value) (h : mx_H) (c n : Nat) : mx_G r (t_Mo_free zz) 30 ls st h c n = (o_push 1 (.int 0)) r (mx_G r (t_Mo_free zz)) 30 ls st h c n := mx_G_eq (tm_Mo_free zz) r 30 ls st h c n
theorem st_Mo_free_31 (zz : Nat × Nat) (r : mx_T) (ls : mx_L) (st : List Value) (h : mx_H) (c n : Nat) : mx_G r (t_Mo_free zz) 31 ls st h c n = (o_istore 1 2) r (mx_G r (t_Mo_free zz)) 31 ls st h c n := mx_G_eq (tm_Mo_free zz) r 31 ls st h c n
theorem st_Mo_free_32 (zz : Nat × Nat) (r : mx_T) (ls : mx_L) (st : List Value) (h : mx_H) (c n : Nat) : mx_G r (t_Mo_free zz) 32 ls st h c n = (o_push 1 (.int 0)) r (mx_G r (t_Mo_free zz)) 32 ls st h c n := mx_G_eq (tm_Mo_free zz) r 32 ls st h c n
theorem st_Mo_free_33 (zz : Nat × Nat) (r : mx_T) (ls : mx_L) (st : List Value) (h : mx_H) (c n : Nat) : mx_G r (t_Mo_free zz) 33 ls st h c n = (o_istore 1 3) r (mx_G r (t_Mo_free zz)) 33 ls st h c n := mx_G_eq (tm_Mo_free zz) r 33 ls st h c n
theorem st_Mo_free_34 (zz : Nat × Nat) (r : mx_T) (ls : mx_L) (st : List Value) (h : mx_H) (c n : Nat) : mx_G r (t_Mo_free zz) 34 ls st h c n = (o_iload 1 3) r (mx_G r (t_Mo_free zz)) 34 ls st h c n := mx_G_eq (tm_Mo_free zz) r 34 ls st h c n
theorem st_Mo_free_35 (zz : Nat × Nat) (r : mx_T) (ls : mx_L) (st : List Value) (h : mx_H) (c n : Nat) : mx_G r (t_Mo_free zz) 35 ls st h c n = (o_push 2 (.int 8)) r (mx_G r (t_Mo_free zz)) 35 ls st h c n := mx_G_eq (tm_Mo_free zz) r 35 ls st h c n
theorem st_Mo_free_37 (zz : Nat × Nat) (r : mx_T) (ls : mx_L) (st : List Value) (h : mx_H) (c n : Nat) : mx_G r (t_Mo_free zz) 37 ls st h c n = (o_icmp 65 (fun x y => y ≤ x)) r (mx_G r (t_Mo_free zz)) 37 ls st h c n := mx_G_eq (tm_Mo_free zz) r 37 ls st h c n
theorem st_Mo_free_40 (zz : Nat × Nat) (r : mx_T) (ls : mx_L) (st : List Value) (h : mx_H) (c n : Nat) : mx_G r (t_Mo_free zz) 40 ls st h c n = (o_iload 1 2) r (mx_G r (t_Mo_free zz)) 40 ls st h c n := mx_G_eq (tm_Mo_free zz) r 40 ls st h c n
theorem st_Mo_free_41 (zz : Nat × Nat) (r : mx_T) (ls : mx_L) (st : List Value) (h : mx_H) (c n : Nat) : mx_G r (t_Mo_free zz) 41 ls st h c n = (o_if 57 (fun x => x = 0)) r (mx_G r (t_Mo_free zz)) 41 ls st h c n := mx_G_eq (tm_Mo_free zz) r 41 ls st h c n
theorem st_Mo_free_44 (zz : Nat × Nat) (r : mx_T) (ls : mx_L) (st : List Value) (h : mx_H) (c n : Nat) : mx_G r (t_Mo_free zz) 44 ls st h c n = (o_aload 1 0) r (mx_G r (t_Mo_free zz)) 44 ls st h c n := mx_G_eq (tm_Mo_free zz) r 44 ls st h c n
theorem st_Mo_free_45 (zz : Nat × Nat) (r : mx_T) (ls : mx_L) (st : List Value) (h : mx_H) (c n : Nat) : mx_G r (t_Mo_free zz) 45 ls st h c n = (o_iload 1 1) r (mx_G r (t_Mo_free zz)) 45 ls st h c n := mx_G_eq (tm_Mo_free zz) r 45 ls st h c n
theorem st_Mo_free_46 (zz : Nat × Nat) (r : mx_T) (ls : mx_L) (st : List Value) (h : mx_H) (c n : Nat) : mx_G r (t_Mo_free zz) 46 ls st h c n = (o_iload 1 3) r (mx_G r (t_Mo_free zz)) 46 ls st h c n := mx_G_eq (tm_Mo_free zz) r 46 ls st h c n
theorem st_Mo_free_47 (zz : Nat × Nat) (r : mx_T) (ls : mx_L) (st : List Value) (h : mx_H) (c n : Nat) : mx_G r (t_Mo_free zz) 47 ls st h c n = (o_call 0 0 3 0 0 (mx_rv 10) (S_Mo_bitTaken zz)) r (mx_G r (t_Mo_free zz)) 47 ls st h c n := mx_G_eq (tm_Mo_free zz) r 47 ls st h c n
theorem st_Mo_free_50 (zz : Nat × Nat) (r : mx_T) (ls : mx_L) (st : List Value) (h : mx_H) (c n : Nat) : mx_G r (t_Mo_free zz) 50 ls st h c n = (o_if 57 (fun x => ¬ x = 0)) r (mx_G r (t_Mo_free zz)) 50 ls st h c n := mx_G_eq (tm_Mo_free zz) r 50 ls st h c n
theorem st_Mo_free_53 (zz : Nat × Nat) (r : mx_T) (ls : mx_L) (st : List Value) (h : mx_H) (c n : Nat) : mx_G r (t_Mo_free zz) 53 ls st h c n = (o_push 1 (.int 1)) r (mx_G r (t_Mo_free zz)) 53 ls st h c n := mx_G_eq (tm_Mo_free zz) r 53 ls st h c n
theorem st_Mo_free_54 (zz : Nat × Nat) (r : mx_T) (ls : mx_L) (st : List Value) (h : mx_H) (c n : Nat) : mx_G r (t_Mo_free zz) 54 ls st h c n = (o_goto 58) r (mx_G r (t_Mo_free zz)) 54 ls st h c n := mx_G_eq (tm_Mo_free zz) r 54 ls st h c n
theorem st_Mo_free_57 (zz : Nat × Nat) (r : mx_T) (ls : mx_L) (st : List Value) (h : mx_H) (c n : Nat) : mx_G r (t_Mo_free zz) 57 ls st h c n = (o_push 1 (.int 0)) r (mx_G r (t_Mo_free zz)) 57 ls st h c n := mx_G_eq (tm_Mo_free zz) r 57 ls st h c n
theorem st_Mo_free_58 (zz : Nat × Nat) (r : mx_T) (ls : mx_L) (st : List Value) (h : mx_H) (c n : Nat) : mx_G r (t_Mo_free zz) 58 ls st h c n = (o_istore 1 2) r (mx_G r (t_Mo_free zz)) 58 ls st h c n := mx_G_eq (tm_Mo_free zz) r 58 ls st h c n
theorem st_Mo_free_59 (zz : Nat × Nat) (r : mx_T) (ls : mx_L) (st : List Value) (h : mx_H) (c n : Nat) : mx_G r (t_Mo_free zz) 59 ls st h c n = (o_iinc 3 1) r (mx_G r (t_Mo_free zz)) 59 ls st h c n := mx_G_eq (tm_Mo_free zz) r 59 ls st h c n
theorem st_Mo_free_62 (zz : Nat × Nat) (r : mx_T) (ls : mx_L) (st : List Value) (h : mx_H) (c n : Nat) : mx_G r (t_Mo_free zz) 62 ls st h c n = (o_goto 34) r (mx_G r (t_Mo_free zz)) 62 ls st h c n := mx_G_eq (tm_Mo_free zz) r 62 ls st h c n
theorem st_Mo_free_65 (zz : Nat × Nat) (r : mx_T) (ls : mx_L) (st : List Value) (h : mx_H) (c n : Nat) : mx_G r (t_Mo_free zz) 65 ls st h c n = (o_iload 1 2) r (mx_G r (t_Mo_free zz)) 65 ls st h c n := mx_G_eq (tm_Mo_free zz) r 65 ls st h c n
theorem st_Mo_free_66 (zz : Nat × Nat) (r : mx_T) (ls : mx_L) (st : List Value) (h : mx_H) (c n : Nat) : mx_G r (t_Mo_free zz) 66 ls st h c n = (o_zret) r (mx_G r (t_Mo_free zz)) 66 ls st h c n := mx_G_eq (tm_Mo_free zz) r 66 ls st h c n
