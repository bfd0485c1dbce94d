theorem d_Hs_areAlike_0 : decode c_Hs_areAlike 0 = .ok (.iconst 0, 1) := by decide +kernel
theorem d_Hs_areAlike_1 : decode c_Hs_areAlike 1 = .ok (.istore_n 1, 1) := by decide +kernel
theorem d_Hs_areAlike_2 : decode c_Hs_areAlike 2 = .ok (.iload_n 1, 1) := by decide +kernel
theorem d_Hs_areAlike_3 : decode c_Hs_areAlike 3 = .ok (.aload_n 0, 1) := by decide +kernel
theorem d_Hs_areAlike_4 : decode c_Hs_areAlike 4 = .ok (.arraylength, 1) := by decide +kernel
theorem d_Hs_areAlike_5 : decode c_Hs_areAlike 5 = .ok (.if_icmp .ge 36, 3) := by decide +kernel
theorem d_Hs_areAlike_8 : decode c_Hs_areAlike 8 = .ok (.iconst 0, 1) := by decide +kernel
theorem d_Hs_areAlike_9 : decode c_Hs_areAlike 9 = .ok (.istore_n 2, 1) := by decide +kernel
theorem d_Hs_areAlike_10 : decode c_Hs_areAlike 10 = .ok (.iload_n 2, 1) := by decide +kernel
theorem d_Hs_areAlike_11 : decode c_Hs_areAlike 11 = .ok (.iload_n 1, 1) := by decide +kernel
theorem d_Hs_areAlike_12 : decode c_Hs_areAlike 12 = .ok (.if_icmp .ge 23, 3) := by decide +kernel
theorem d_Hs_areAlike_15 : decode c_Hs_areAlike 15 = .ok (.aload_n 0, 1) := by decide +kernel
theorem d_Hs_areAlike_16 : decode c_Hs_areAlike 16 = .ok (.iload_n 1, 1) := by decide +kernel
theorem d_Hs_areAlike_17 : decode c_Hs_areAlike 17 = .ok (.aaload, 1) := by decide +kernel
theorem d_Hs_areAlike_18 : decode c_Hs_areAlike 18 = .ok (.aload_n 0, 1) := by decide +kernel
theorem d_Hs_areAlike_19 : decode c_Hs_areAlike 19 = .ok (.iload_n 2, 1) := by decide +kernel
theorem d_Hs_areAlike_20 : decode c_Hs_areAlike 20 = .ok (.aaload, 1) := by decide +kernel
theorem d_Hs_areAlike_21 : decode c_Hs_areAlike 21 = .ok (.invokevirtual 222, 3) := by decide +kernel
theorem d_Hs_areAlike_24 : decode c_Hs_areAlike 24 = .ok (.ifCond .ne 5, 3) := by decide +kernel
theorem d_Hs_areAlike_27 : decode c_Hs_areAlike 27 = .ok (.iconst 0, 1) := by decide +kernel
theorem d_Hs_areAlike_28 : decode c_Hs_areAlike 28 = .ok (.ireturn, 1) := by decide +kernel
theorem d_Hs_areAlike_29 : decode c_Hs_areAlike 29 = .ok (.iinc 2 1, 3) := by decide +kernel
theorem d_Hs_areAlike_32 : decode c_Hs_areAlike 32 = .ok (.goto (-22), 3) := by decide +kernel
theorem d_Hs_areAlike_35 : decode c_Hs_areAlike 35 = .ok (.iinc 1 1, 3) := by decide +kernel
theorem d_Hs_areAlike_38 : decode c_Hs_areAlike 38 = .ok (.goto (-36), 3) := by decide +kernel
theorem d_Hs_areAlike_41 : decode c_Hs_areAlike 41 = .ok (.iconst 1, 1) := by decide +kernel
theorem d_Hs_areAlike_42 : decode c_Hs_areAlike 42 = .ok (.ireturn, 1) := by decide +kernel
def t_Hs_areAlike (zz : Nat × Nat) : List (Nat × mx_O) := [(0, o_push 1 (.int 0)),
  (1, o_istore 1 1),
  (2, o_iload 1 1),
  (3, o_aload 1 0),
  (4, o_alen),
  (5, o_icmp 41 (fun x y => y ≤ x)),
  (8, o_push 1 (.int 0)),
  (9, o_istore 1 2),
  (10, o_iload 1 2),
  (11, o_iload 1 1),
  (12, o_icmp 35 (fun x y => y ≤ x)),
  (15, o_aload 1 0),
  (16, o_iload 1 1),
  (17, o_aald),
  (18, o_aload 1 0),
  (19, o_iload 1 2),
  (20, o_aald),
  (21, o_call 0 0 2 0 0 (mx_rv 1) (S_Fr_isLike zz)),
  (24, o_if 29 (fun x => ¬ x = 0)),
  (27, o_push 1 (.int 0)),
  (28, o_zret),
  (29, o_iinc 2 1),
  (32, o_goto 10),
  (35, o_iinc 1 1),
  (38, o_goto 2),
  (41, o_push 1 (.int 1)),
  (42, o_zret)]
set_option maxRecDepth 100000 in
theorem tm_Hs_areAlike (zz : Nat × Nat) : mx_All (fun _ o => mx_Mono o) (t_Hs_areAlike zz) := by
  refine mx_all_cons (mo_st) ?_
  refine mx_all_cons (mo_st) ?_
  refine mx_all_cons (mo_st) ?_
  refine mx_all_cons (mo_st) ?_
  refine mx_all_cons (mo_st) ?_
  refine mx_all_cons (mo_br) ?_
  refine mx_all_cons (mo_st) ?_
  refine mx_all_cons (mo_st) ?_
  refine mx_all_cons (mo_st) ?_
  refine mx_all_cons (mo_st) ?_
  refine mx_all_cons (mo_br) ?_
  refine mx_all_cons (mo_st) ?_
  refine mx_all_cons (mo_st) ?_
  refine mx_all_cons (mo_sc) ?_
  refine mx_all_cons (mo_st) ?_
  refine mx_all_cons (mo_st) ?_
  refine mx_all_cons (mo_sc) ?_
  refine mx_all_cons (mo_call (sm_Fr_isLike zz)) ?_
  refine mx_all_cons (mo_br) ?_
  refine mx_all_cons (mo_st) ?_
  refine mx_all_cons (mo_zret) ?_
  refine mx_all_cons (mo_st) ?_
  refine mx_all_cons (mo_st) ?_
  refine mx_all_cons (mo_st) ?_
  refine mx_all_cons (mo_st) ?_
  refine mx_all_cons (mo_st) ?_
  refine mx_all_cons (mo_zret) ?_
  exact mx_all_nil
def S_Hs_areAlike (zz : Nat × Nat) : mx_Sp := mx_S 3 0 0 (t_Hs_areAlike zz)
theorem sm_Hs_areAlike (zz : Nat × Nat) : mx_SMono (S_Hs_areAlike zz) := mx_S_mono (tm_Hs_areAlike zz)
abbrev rm_Hs_areAlike : Room := { frames := 1, cells := 0, slots := 0, locals := 21 }
set_option maxHeartbeats 4000000 in
set_option maxRecDepth 100000 in
theorem m_Hs_areAlike (l : Launch) (zz : Nat × Nat) : mx_Met l y_Hs_areAlike (wsOf y_Hs_areAlike c_Hs_areAlike 3 (some .boolean)) rm_Hs_areAlike wcl (mx_Z zz) 0 0 (S_Hs_areAlike zz) := by
  refine mx_met (cc := c_Hs_areAlike) (ret := (some .boolean)) (by decide) rfl ?_
  intro p e s m args below meth c D A Post X hz hr hlk hnm
  have hm : ∀ w ∈ mw, w.before args s = true := fun w h => X.1.2.2.2.2 w (List.mem_cons_of_mem _ h)
  refine mx_all_cons (ok_push (fun kk => lv_iconst X.1.1 X.1.2.1 d_Hs_areAlike_0 (by decide) kk)) ?_
  refine mx_all_cons (ok_istore (fun hl kk => lv_istore_n X.1.1 X.1.2.1 d_Hs_areAlike_1 rfl hl (by decide) rfl kk)) ?_
  refine mx_all_cons (ok_iload (fun hl kk => lv_iload_n X.1.1 X.1.2.1 d_Hs_areAlike_2 rfl hl kk)) ?_
  refine mx_all_cons (ok_aload (fun hl kk => lv_aload_n X.1.1 X.1.2.1 d_Hs_areAlike_3 rfl hl kk) (fun hl kk => lv_aload_nN X.1.1 X.1.2.1 d_Hs_areAlike_3 rfl hl kk)) ?_
  refine mx_all_cons (ok_alen X d_Hs_areAlike_4) ?_
  refine mx_all_cons (ok_icmp (fun kt kf => lv_icmp_ge X.1.1 X.1.2.1 d_Hs_areAlike_5 (by decide) kt kf)) ?_
  refine mx_all_cons (ok_push (fun kk => lv_iconst X.1.1 X.1.2.1 d_Hs_areAlike_8 (by decide) kk)) ?_
  refine mx_all_cons (ok_istore (fun hl kk => lv_istore_n X.1.1 X.1.2.1 d_Hs_areAlike_9 rfl hl (by decide) rfl kk)) ?_
  refine mx_all_cons (ok_iload (fun hl kk => lv_iload_n X.1.1 X.1.2.1 d_Hs_areAlike_10 rfl hl kk)) ?_
  refine mx_all_cons (ok_iload (fun hl kk => lv_iload_n X.1.1 X.1.2.1 d_Hs_areAlike_11 rfl hl kk)) ?_
  refine mx_all_cons (ok_icmp (fun kt kf => lv_icmp_ge X.1.1 X.1.2.1 d_Hs_areAlike_12 (by decide) kt kf)) ?_
  refine mx_all_cons (ok_aload (fun hl kk => lv_aload_n X.1.1 X.1.2.1 d_Hs_areAlike_15 rfl hl kk) (fun hl kk => lv_aload_nN X.1.1 X.1.2.1 d_Hs_areAlike_15 rfl hl kk)) ?_
  refine mx_all_cons (ok_iload (fun hl kk => lv_iload_n X.1.1 X.1.2.1 d_Hs_areAlike_16 rfl hl kk)) ?_
  refine mx_all_cons (ok_aald X d_Hs_areAlike_17) ?_
  refine mx_all_cons (ok_aload (fun hl kk => lv_aload_n X.1.1 X.1.2.1 d_Hs_areAlike_18 rfl hl kk) (fun hl kk => lv_aload_nN X.1.1 X.1.2.1 d_Hs_areAlike_18 rfl hl kk)) ?_
  refine mx_all_cons (ok_iload (fun hl kk => lv_iload_n X.1.1 X.1.2.1 d_Hs_areAlike_19 rfl hl kk)) ?_
  refine mx_all_cons (ok_aald X d_Hs_areAlike_20) ?_
  refine mx_all_cons (ok_callV (C := "HeaderSchedule$Frame") (T := T_Fr) (N := 8) X (mx_Zok_Z zz) hz ⟨(Nat.le_of_ble_eq_true rfl), (Nat.le_of_ble_eq_true rfl)⟩ (m_Fr_isLike l zz) ⟨mx_cwB 1 hm w421 w418 w41 rfl rfl (by decide +kernel) ⟨(Nat.le_of_ble_eq_true rfl), (Nat.le_of_ble_eq_true rfl)⟩, (hm _ w419), hm _ w420⟩ rfl d_Hs_areAlike_21) ?_
  refine mx_all_cons (ok_if (fun kt kf => lv_if_ne X.1.1 X.1.2.1 d_Hs_areAlike_24 (by decide) kt (fun z => kf (fun g => g z)))) ?_
  refine mx_all_cons (ok_push (fun kk => lv_iconst X.1.1 X.1.2.1 d_Hs_areAlike_27 (by decide) kk)) ?_
  refine mx_all_cons (ok_zret X hr hlk d_Hs_areAlike_28) ?_
  refine mx_all_cons (ok_iinc X (by decide) (by decide) d_Hs_areAlike_29) ?_
  refine mx_all_cons (ok_goto X d_Hs_areAlike_32 (by decide)) ?_
  refine mx_all_cons (ok_iinc X (by decide) (by decide) d_Hs_areAlike_35) ?_
  refine mx_all_cons (ok_goto X d_Hs_areAlike_38 (by decide)) ?_
  refine mx_all_cons (ok_push (fun kk => lv_iconst X.1.1 X.1.2.1 d_Hs_areAlike_41 (by decide) kk)) ?_
  refine mx_all_cons (ok_zret X hr hlk d_Hs_areAlike_42) ?_
  exact mx_all_nil
theorem st_Hs_areAlike_0 (zz : Nat × Nat) (r : mx_T) (ls : mx_L) (st : List Value) (h : mx_H) (c n : Nat) : mx_G r (t_Hs_areAlike zz) 0 ls st h c n = (o_push 1 (.int 0)) r (mx_G r (t_Hs_areAlike zz)) 0 ls st h c n := mx_G_eq (tm_Hs_areAlike zz) r 0 ls st h c n
theorem st_Hs_areAlike_1 (zz : Nat × Nat) (r : mx_T) (ls : mx_L) (st : List Value) (h : mx_H) (c n : Nat) : mx_G r (t_Hs_areAlike zz) 1 ls st h c n = (o_istore 1 1) r (mx_G r (t_Hs_areAlike zz)) 1 ls st h c n := mx_G_eq (tm_Hs_areAlike zz) r 1 ls st h c n
theorem st_Hs_areAlike_2 (zz : Nat × Nat) (r : mx_T) (ls : mx_L) (st : List Value) (h : mx_H) (c n : Nat) : mx_G r (t_Hs_areAlike zz) 2 ls st h c n = (o_iload 1 1) r (mx_G r (t_Hs_areAlike zz)) 2 ls st h c n := mx_G_eq (tm_Hs_areAlike zz) r 2 ls st h c n
theorem st_Hs_areAlike_3 (zz : Nat × Nat) (r : mx_T) (ls : mx_L) (st : List Value) (h : mx_H) (c n : Nat) : mx_G r (t_Hs_areAlike zz) 3 ls st h c n = (o_aload 1 0) r (mx_G r (t_Hs_areAlike zz)) 3 ls st h c n := mx_G_eq (tm_Hs_areAlike zz) r 3 ls st h c n
theorem st_Hs_areAlike_4 (zz : Nat × Nat) (r : mx_T) (ls : mx_L) (st : List Value) (h : mx_H) (c n : Nat) : mx_G r (t_Hs_areAlike zz) 4 ls st h c n = (o_alen) r (mx_G r (t_Hs_areAlike zz)) 4 ls st h c n := mx_G_eq (tm_Hs_areAlike zz) r 4 ls st h c n
theorem st_Hs_areAlike_5 (zz : Nat × Nat) (r : mx_T) (ls : mx_L) (st : List Value) (h : mx_H) (c n : Nat) : mx_G r (t_Hs_areAlike zz) 5 ls st h c n = (o_icmp 41 (fun x y => y ≤ x)) r (mx_G r (t_Hs_areAlike zz)) 5 ls st h c n := mx_G_eq (tm_Hs_areAlike zz) r 5 ls st h c n
theorem st_Hs_areAlike_8 (zz : Nat × Nat) (r : mx_T) (ls : mx_L) (st : List Value) (h : mx_H) (c n : Nat) : mx_G r (t_Hs_areAlike zz) 8 ls st h c n = (o_push 1 (.int 0)) r (mx_G r (t_Hs_areAlike zz)) 8 ls st h c n := mx_G_eq (tm_Hs_areAlike zz) r 8 ls st h c n
theorem st_Hs_areAlike_9 (zz : Nat × Nat) (r : mx_T) (ls : mx_L) (st : List Value) (h : mx_H) (c n : Nat) : mx_G r (t_Hs_areAlike zz) 9 ls st h c n = (o_istore 1 2) r (mx_G r (t_Hs_areAlike zz)) 9 ls st h c n := mx_G_eq (tm_Hs_areAlike zz) r 9 ls st h c n
theorem st_Hs_areAlike_10 (zz : Nat × Nat) (r : mx_T) (ls : mx_L) (st : List Value) (h : mx_H) (c n : Nat) : mx_G r (t_Hs_areAlike zz) 10 ls st h c n = (o_iload 1 2) r (mx_G r (t_Hs_areAlike zz)) 10 ls st h c n := mx_G_eq (tm_Hs_areAlike zz) r 10 ls st h c n
theorem st_Hs_areAlike_11 (zz : Nat × Nat) (r : mx_T) (ls : mx_L) (st : List Value) (h : mx_H) (c n : Nat) : mx_G r (t_Hs_areAlike zz) 11 ls st h c n = (o_iload 1 1) r (mx_G r (t_Hs_areAlike zz)) 11 ls st h c n := mx_G_eq (tm_Hs_areAlike zz) r 11 ls st h c n
theorem st_Hs_areAlike_12 (zz : Nat × Nat) (r : mx_T) (ls : mx_L) (st : List Value) (h : mx_H) (c n : Nat) : mx_G r (t_Hs_areAlike zz) 12 ls st h c n = (o_icmp 35 (fun x y => y ≤ x)) r (mx_G r (t_Hs_areAlike zz)) 12 ls st h c n := mx_G_eq (tm_Hs_areAlike zz) r 12 ls st h c n
theorem st_Hs_areAlike_15 (zz : Nat × Nat) (r : mx_T) (ls : mx_L) (st : List Value) (h : mx_H) (c n : Nat) : mx_G r (t_Hs_areAlike zz) 15 ls st h c n = (o_aload 1 0) r (mx_G r (t_Hs_areAlike zz)) 15 ls st h c n := mx_G_eq (tm_Hs_areAlike zz) r 15 ls st h c n
theorem st_Hs_areAlike_16 (zz : Nat × Nat) (r : mx_T) (ls : mx_L) (st : List Value) (h : mx_H) (c n : Nat) : mx_G r (t_Hs_areAlike zz) 16 ls st h c n = (o_iload 1 1) r (mx_G r (t_Hs_areAlike zz)) 16 ls st h c n := mx_G_eq (tm_Hs_areAlike zz) r 16 ls st h c n
theorem st_Hs_areAlike_17 (zz : Nat × Nat) (r : mx_T) (ls : mx_L) (st : List Value) (h : mx_H) (c n : Nat) : mx_G r (t_Hs_areAlike zz) 17 ls st h c n = (o_aald) r (mx_G r (t_Hs_areAlike zz)) 17 ls st h c n := mx_G_eq (tm_Hs_areAlike zz) r 17 ls st h c n
theorem st_Hs_areAlike_18 (zz : Nat × Nat) (r : mx_T) (ls : mx_L) (st : List Value) (h : mx_H) (c n : Nat) : mx_G r (t_Hs_areAlike zz) 18 ls st h c n = (o_aload 1 0) r (mx_G r (t_Hs_areAlike zz)) 18 ls st h c n := mx_G_eq (tm_Hs_areAlike zz) r 18 ls st h c n
theorem st_Hs_areAlike_19 (zz : Nat × Nat) (r : mx_T) (ls : mx_L) (st : List Value) (h : mx_H) (c n : Nat) : mx_G r (t_Hs_areAlike zz) 19 ls st h c n = (o_iload 1 2) r (mx_G r (t_Hs_areAlike zz)) 19 ls st h c n := mx_G_eq (tm_Hs_areAlike zz) r 19 ls st h c n
theorem st_Hs_areAlike_20 (zz : Nat × Nat) (r : mx_T) (ls : mx_L) (st : List Value) (h : mx_H) (c n : Nat) : mx_G r (t_Hs_areAlike zz) 20 ls st h c n = (o_aald) r (mx_G r (t_Hs_areAlike zz)) 20 ls st h c n := mx_G_eq (tm_Hs_areAlike zz) r 20 ls st h c n
theorem st_Hs_areAlike_21 (zz : Nat × Nat) (r : mx_T) (ls : mx_L) (st : List Value) (h : mx_H) (c n : Nat) : mx_G r (t_Hs_areAlike zz) 21 ls st h c n = (o_call 0 0 2 0 0 (mx_rv 1) (S_Fr_isLike zz)) r (mx_G r (t_Hs_areAlike zz)) 21 ls st h c n := mx_G_eq (tm_Hs_areAlike zz) r 21 ls st h c n
theorem st_Hs_areAlike_24 (zz : Nat × Nat) (r : mx_T) (ls : mx_L) (st : List Value) (h : mx_H) (c n : Nat) : mx_G r (t_Hs_areAlike zz) 24 ls st h c n = (o_if 29 (fun x => ¬ x = 0)) r (mx_G r (t_Hs_areAlike zz)) 24 ls st h c n := mx_G_eq (tm_Hs_areAlike zz) r 24 ls st h c n
theorem st_Hs_areAlike_27 (zz : Nat × Nat) (r : mx_T) (ls : mx_L) (st : List Value) (h : mx_H) (c n : Nat) : mx_G r (t_Hs_areAlike zz) 27 ls st h c n = (o_push 1 (.int 0)) r (mx_G r (t_Hs_areAlike zz)) 27 ls st h c n := mx_G_eq (tm_Hs_areAlike zz) r 27 ls st h c n
theorem st_Hs_areAlike_28 (zz : Nat × Nat) (r : mx_T) (ls : mx_L) (st : List Value) (h : mx_H) (c n : Nat) : mx_G r (t_Hs_areAlike zz) 28 ls st h c n = (o_zret) r (mx_G r (t_Hs_areAlike zz)) 28 ls st h c n := mx_G_eq (tm_Hs_areAlike zz) r 28 ls st h c n
theorem st_Hs_areAlike_29 (zz : Nat × Nat) (r : mx_T) (ls : mx_L) (st : List Value) (h : mx_H) (c n : Nat) : mx_G r (t_Hs_areAlike zz) 29 ls st h c n = (o_iinc 2 1) r (mx_G r (t_Hs_areAlike zz)) 29 ls st h c n := mx_G_eq (tm_Hs_areAlike zz) r 29 ls st h c n
theorem st_Hs_areAlike_32 (zz : Nat × Nat) (r : mx_T) (ls : mx_L) (st : List Value) (h : mx_H) (c n : Nat) : mx_G r (t_Hs_areAlike zz) 32 ls st h c n = (o_goto 10) r (mx_G r (t_Hs_areAlike zz)) 32 ls st h c n := mx_G_eq (tm_Hs_areAlike zz) r 32 ls st h c n
theorem st_Hs_areAlike_35 (zz : Nat × Nat) (r : mx_T) (ls : mx_L) (st : List Value) (h : mx_H) (c n : Nat) : mx_G r (t_Hs_areAlike zz) 35 ls st h c n = (o_iinc 1 1) r (mx_G r (t_Hs_areAlike zz)) 35 ls st h c n := mx_G_eq (tm_Hs_areAlike zz) r 35 ls st h c n
theorem st_Hs_areAlike_38 (zz : Nat × Nat) (r : mx_T) (ls : mx_L) (st : List Value) (h : mx_H) (c n : Nat) : mx_G r (t_Hs_areAlike zz) 38 ls st h c n = (o_goto 2) r (mx_G r (t_Hs_areAlike zz)) 38 ls st h c n := mx_G_eq (tm_Hs_areAlike zz) r 38 ls st h c n
theorem st_Hs_areAlike_41 (zz : Nat × Nat) (r : mx_T) (ls : mx_L) (st : List Value) (h : mx_H) (c n : Nat) : mx_G r (t_Hs_areAlike zz) 41 ls st h c n = (o_push 1 (.int 1)) r (mx_G r (t_Hs_areAlike zz)) 41 ls st h c n := mx_G_eq (tm_Hs_areAlike zz) r 41 ls st h c n
theorem st_Hs_areAlike_42 (zz : Nat × Nat) (r : mx_T) (ls : mx_L) (st : List Value) (h : mx_H) (c n : Nat) : mx_G r (t_Hs_areAlike zz) 42 ls st h c n = (o_zret) r (mx_G r (t_Hs_areAlike zz)) 42 ls st h c n := mx_G_eq (tm_Hs_areAlike zz) r 42 ls st h c n
theorem d_Fr_associate_0 : decode c_Fr_associate 0 = .ok (.aload_n 0, 1) := by decide +kernel
theorem d_Fr_associate_1 : decode c_Fr_associate 1 = .ok (.dup, 1) := by decide +kernel
theorem d_Fr_associate_2 : decode c_Fr_associate 2 = .ok (.getfield 17, 3) := by decide +kernel
theorem d_Fr_associate_5 : decode c_Fr_associate 5 = .ok (.ldc2_w 40, 3) := by decide +kernel
theorem d_Fr_associate_8 : decode c_Fr_associate 8 = .ok (.lor, 1) := by decide +kernel
theorem d_Fr_associate_9 : decode c_Fr_associate 9 = .ok (.putfield 17, 3) := by decide +kernel
theorem d_Fr_associate_12 : decode c_Fr_associate 12 = .ok (.aload_n 0, 1) := by decide +kernel
theorem d_Fr_associate_13 : decode c_Fr_associate 13 = .ok (.aload_n 0, 1) := by decide +kernel
theorem d_Fr_associate_14 : decode c_Fr_associate 14 = .ok (.getfield 11, 3) := by decide +kernel
theorem d_Fr_associate_17 : decode c_Fr_associate 17 = .ok (.ldc2_w 42, 3) := by decide +kernel
theorem d_Fr_associate_20 : decode c_Fr_associate 20 = .ok (.land, 1) := by decide +kernel
theorem d_Fr_associate_21 : decode c_Fr_associate 21 = .ok (.aload_n 0, 1) := by decide +kernel
theorem d_Fr_associate_22 : decode c_Fr_associate 22 = .ok (.getfield 28, 3) := by decide +kernel
theorem d_Fr_associate_25 : decode c_Fr_associate 25 = .ok (.i2l, 1) := by decide +kernel
theorem d_Fr_associate_26 : decode c_Fr_associate 26 = .ok (.lor, 1) := by decide +kernel
theorem d_Fr_associate_27 : decode c_Fr_associate 27 = .ok (.putfield 11, 3) := by decide +kernel
theorem d_Fr_associate_30 : decode c_Fr_associate 30 = .ok (.return_, 1) := by decide +kernel
def t_Fr_associate (zz : Nat × Nat) : List (Nat × mx_O) := [(0, o_aload 1 0),
  (1, o_dup),
  (2, o_get 1 6),
  (5, o_push 3 (.long 255)),
  (8, o_ll (fun x y => .long (x ||| y))),
  (9, o_put 1 6 mx_vJ),
  (12, o_aload 1 0),
  (13, o_aload 1 0),
  (14, o_get 1 5),
  (17, o_push 3 (.long (-256))),
  (20, o_ll (fun x y => .long (x &&& y))),
  (21, o_aload 1 0),
  (22, o_get 1 1),
  (25, o_i1 (fun x => .long x.toInt64)),
  (26, o_ll (fun x y => .long (x ||| y))),
  (27, o_put 1 5 mx_vJ),
  (30, o_vret)]
set_option maxRecDepth 100000 in
theorem tm_Fr_associate (zz : Nat × Nat) : mx_All (fun _ o => mx_Mono o) (t_Fr_associate zz) := by
  refine mx_all_cons (mo_st) ?_
  refine mx_all_cons (mo_st) ?_
  refine mx_all_cons (mo_st) ?_
  refine mx_all_cons (mo_st) ?_
  refine mx_all_cons (mo_st) ?_
  refine mx_all_cons (mo_sc) ?_
  refine mx_all_cons (mo_st) ?_
  refine mx_all_cons (mo_st) ?_
  refine mx_all_cons (mo_st) ?_
  refine mx_all_cons (mo_st) ?_
  refine mx_all_cons (mo_st) ?_
  refine mx_all_cons (mo_st) ?_
  refine mx_all_cons (mo_st) ?_
  refine mx_all_cons (mo_st) ?_
  refine mx_all_cons (mo_st) ?_
  refine mx_all_cons (mo_sc) ?_
  refine mx_all_cons (mo_ret) ?_
  exact mx_all_nil
def S_Fr_associate (zz : Nat × Nat) : mx_Sp := mx_S 1 0 0 (t_Fr_associate zz)
theorem sm_Fr_associate (zz : Nat × Nat) : mx_SMono (S_Fr_associate zz) := mx_S_mono (tm_Fr_associate zz)
abbrev rm_Fr_associate : Room := { frames := 0, cells := 0, slots := 0, locals := 0 }
set_option maxHeartbeats 4000000 in
set_option maxRecDepth 100000 in
theorem m_Fr_associate (l : Launch) (zz : Nat × Nat) : mx_Met l y_Fr_associate (wsOf y_Fr_associate c_Fr_associate 1 none) rm_Fr_associate wcl (mx_Z zz) 0 0 (S_Fr_associate zz) := by
  refine mx_met (cc := c_Fr_associate) (ret := none) (by decide) rfl ?_
  intro p e s m args below meth c D A Post X hz hr hlk hnm
  have hm : ∀ w ∈ mw, w.before args s = true := fun w h => X.1.2.2.2.2 w (List.mem_cons_of_mem _ h)
  refine mx_all_cons (ok_aload (fun hl kk => lv_aload_n X.1.1 X.1.2.1 d_Fr_associate_0 rfl hl kk) (fun hl kk => lv_aload_nN X.1.1 X.1.2.1 d_Fr_associate_0 rfl hl kk)) ?_
  refine mx_all_cons (ok_dup X d_Fr_associate_1) ?_
  refine mx_all_cons (ok_get (C := "HeaderSchedule$Frame") (T := T_Fr) (N := 8) X (mw_up in_Fr) rfl 6 (by decide) (hm _ w234) (fun _ h9 => h9) d_Fr_associate_2) ?_
  refine mx_all_cons (ok_push (fun kk => lv_ldc2 X.1.1 X.1.2.1 X.1.2.2.2.1 (hm _ w426) d_Fr_associate_5 kk)) ?_
  refine mx_all_cons (ok_ll (fun kk => lv_lor X.1.1 X.1.2.1 d_Fr_associate_8 kk)) ?_
  refine mx_all_cons (ok_put (C := "HeaderSchedule$Frame") (T := T_Fr) (N := 8) X (mw_up in_Fr) ty_Fr tyok_Fr nm_Fr rfl 6 (by decide) (hm _ w234) (fun _ h9 => h9) rfl (tyok_Fr 6 (by decide)) mx_vJ_ok d_Fr_associate_9) ?_
  refine mx_all_cons (ok_aload (fun hl kk => lv_aload_n X.1.1 X.1.2.1 d_Fr_associate_12 rfl hl kk) (fun hl kk => lv_aload_nN X.1.1 X.1.2.1 d_Fr_associate_12 rfl hl kk)) ?_
  refine mx_all_cons (ok_aload (fun hl kk => lv_aload_n X.1.1 X.1.2.1 d_Fr_associate_13 rfl hl kk) (fun hl kk => lv_aload_nN X.1.1 X.1.2.1 d_Fr_associate_13 rfl hl kk)) ?_
  refine mx_all_cons (ok_get (C := "HeaderSchedule$Frame") (T := T_Fr) (N := 8) X (mw_up in_Fr) rfl 5 (by decide) (hm _ w231) (fun _ h9 => h9) d_Fr_associate_14) ?_
  refine mx_all_cons (ok_push (fun kk => lv_ldc2 X.1.1 X.1.2.1 X.1.2.2.2.1 (hm _ w427) d_Fr_associate_17 kk)) ?_
  refine mx_all_cons (ok_ll (fun kk => lv_land X.1.1 X.1.2.1 d_Fr_associate_20 kk)) ?_
  refine mx_all_cons (ok_aload (fun hl kk => lv_aload_n X.1.1 X.1.2.1 d_Fr_associate_21 rfl hl kk) (fun hl kk => lv_aload_nN X.1.1 X.1.2.1 d_Fr_associate_21 rfl hl kk)) ?_
  refine mx_all_cons (ok_get (C := "HeaderSchedule$Frame") (T := T_Fr) (N := 8) X (mw_up in_Fr) rfl 1 (by decide) (hm _ w222) (fun _ h9 => h9) d_Fr_associate_22) ?_
  refine mx_all_cons (ok_i1 (fun kk => lv_i2l X.1.1 X.1.2.1 d_Fr_associate_25 rfl kk)) ?_
  refine mx_all_cons (ok_ll (fun kk => lv_lor X.1.1 X.1.2.1 d_Fr_associate_26 kk)) ?_
  refine mx_all_cons (ok_put (C := "HeaderSchedule$Frame") (T := T_Fr) (N := 8) X (mw_up in_Fr) ty_Fr tyok_Fr nm_Fr rfl 5 (by decide) (hm _ w231) (fun _ h9 => h9) rfl (tyok_Fr 5 (by decide)) mx_vJ_ok d_Fr_associate_27) ?_
  refine mx_all_cons (ok_vret X hr hlk d_Fr_associate_30) ?_
  exact mx_all_nil
theorem st_Fr_associate_0 (zz : Nat × Nat) (r : mx_T) (ls : mx_L) (st : List Value) (h : mx_H) (c n : Nat) : mx_G r (t_Fr_associate zz) 0 ls st h c n = (o_aload 1 0) r (mx_G r (t_Fr_associate zz)) 0 ls st h c n := mx_G_eq (tm_Fr_associate zz) r 0 ls st h c n
theorem st_Fr_associate_1 (zz : Nat × Nat) (r : mx_T) (ls : mx_L) (st : List Value) (h : mx_H) (c n : Nat) : mx_G r (t_Fr_associate zz) 1 ls st h c n = (o_dup) r (mx_G r (t_Fr_associate zz)) 1 ls st h c n := mx_G_eq (tm_Fr_associate zz) r 1 ls st h c n
theorem st_Fr_associate_2 (zz : Nat × Nat) (r : mx_T) (ls : mx_L) (st : List Value) (h : mx_H) (c n : Nat) : mx_G r (t_Fr_associate zz) 2 ls st h c n = (o_get 1 6) r (mx_G r (t_Fr_associate zz)) 2 ls st h c n := mx_G_eq (tm_Fr_associate zz) r 2 ls st h c n
theorem st_Fr_associate_5 (zz : Nat × Nat) (r : mx_T) (ls : mx_L) (st : List Value) (h : mx_H) (c n : Nat) : mx_G r (t_Fr_associate zz) 5 ls st h c n = (o_push 3 (.long 255)) r (mx_G r (t_Fr_associate zz)) 5 ls st h c n := mx_G_eq (tm_Fr_associate zz) r 5 ls st h c n
theorem st_Fr_associate_8 (zz : Nat × Nat) (r : mx_T) (ls : mx_L) (st : List Value) (h : mx_H) (c n : Nat) : mx_G r (t_Fr_associate zz) 8 ls st h c n = (o_ll (fun x y => .long (x ||| y))) r (mx_G r (t_Fr_associate zz)) 8 ls st h c n := mx_G_eq (tm_Fr_associate zz) r 8 ls st h c n
theorem st_Fr_associate_9 (zz : Nat × Nat) (r : mx_T) (ls : mx_L) (st : List Value) (h : mx_H) (c n : Nat) : mx_G r (t_Fr_associate zz) 9 ls st h c n = (o_put 1 6 mx_vJ) r (mx_G r (t_Fr_associate zz)) 9 ls st h c n := mx_G_eq (tm_Fr_associate zz) r 9 ls st h c n
theorem st_Fr_associate_12 (zz : Nat × Nat) (r : mx_T) (ls : mx_L) (st : List Value) (h : mx_H) (c n : Nat) : mx_G r (t_Fr_associate zz) 12 ls st h c n = (o_aload 1 0) r (mx_G r (t_Fr_associate zz)) 12 ls st h c n := mx_G_eq (tm_Fr_associate zz) r 12 ls st h c n
theorem st_Fr_associate_13 (zz : Nat × Nat) (r : mx_T) (ls : mx_L) (st : List Value) (h : mx_H) (c n : Nat) : mx_G r (t_Fr_associate zz) 13 ls st h c n = (o_aload 1 0) r (mx_G r (t_Fr_associate zz)) 13 ls st h c n := mx_G_eq (tm_Fr_associate zz) r 13 ls st h c n
theorem st_Fr_associate_14 (zz : Nat × Nat) (r : mx_T) (ls : mx_L) (st : List Value) (h : mx_H) (c n : Nat) : mx_G r (t_Fr_associate zz) 14 ls st h c n = (o_get 1 5) r (mx_G r (t_Fr_associate zz)) 14 ls st h c n := mx_G_eq (tm_Fr_associate zz) r 14 ls st h c n
theorem st_Fr_associate_17 (zz : Nat × Nat) (r : mx_T) (ls : mx_L) (st : List Value) (h : mx_H) (c n : Nat) : mx_G r (t_Fr_associate zz) 17 ls st h c n = (o_push 3 (.long (-256))) r (mx_G r (t_Fr_associate zz)) 17 ls st h c n := mx_G_eq (tm_Fr_associate zz) r 17 ls st h c n
theorem st_Fr_associate_20 (zz : Nat × Nat) (r : mx_T) (ls : mx_L) (st : List Value) (h : mx_H) (c n : Nat) : mx_G r (t_Fr_associate zz) 20 ls st h c n = (o_ll (fun x y => .long (x &&& y))) r (mx_G r (t_Fr_associate zz)) 20 ls st h c n := mx_G_eq (tm_Fr_associate zz) r 20 ls st h c n
theorem st_Fr_associate_21 (zz : Nat × Nat) (r : mx_T) (ls : mx_L) (st : List Value) (h : mx_H) (c n : Nat) : mx_G r (t_Fr_associate zz) 21 ls st h c n = (o_aload 1 0) r (mx_G r (t_Fr_associate zz)) 21 ls st h c n := mx_G_eq (tm_Fr_associate zz) r 21 ls st h c n
theorem st_Fr_associate_22 (zz : Nat × Nat) (r : mx_T) (ls : mx_L) (st : List Value) (h : mx_H) (c n : Nat) : mx_G r (t_Fr_associate zz) 22 ls st h c n = (o_get 1 1) r (mx_G r (t_Fr_associate zz)) 22 ls st h c n := mx_G_eq (tm_Fr_associate zz) r 22 ls st h c n
theorem st_Fr_associate_25 (zz : Nat × Nat) (r : mx_T) (ls : mx_L) (st : List Value) (h : mx_H) (c n : Nat) : mx_G r (t_Fr_associate zz) 25 ls st h c n = (o_i1 (fun x => .long x.toInt64)) r (mx_G r (t_Fr_associate zz)) 25 ls st h c n := mx_G_eq (tm_Fr_associate zz) r 25 ls st h c n
theorem st_Fr_associate_26 (zz : Nat × Nat) (r : mx_T) (ls : mx_L) (st : List Value) (h : mx_H) (c n : Nat) : mx_G r (t_Fr_associate zz) 26 ls st h c n = (o_ll (fun x y => .long (x ||| y))) r (mx_G r (t_Fr_associate zz)) 26 ls st h c n := mx_G_eq (tm_Fr_associate zz) r 26 ls st h c n
theorem st_Fr_associate_27 (zz : Nat × Nat) (r : mx_T) (ls : mx_L) (st : List Value) (h : mx_H) (c n : Nat) : mx_G r (t_Fr_associate zz) 27 ls st h c n = (o_put 1 5 mx_vJ) r (mx_G r (t_Fr_associate zz)) 27 ls st h c n := mx_G_eq (tm_Fr_associate zz) r 27 ls st h c n
theorem st_Fr_associate_30 (zz : Nat × Nat) (r : mx_T) (ls : mx_L) (st : List Value) (h : mx_H) (c n : Nat) : mx_G r (t_Fr_associate zz) 30 ls st h c n = (o_vret) r (mx_G r (t_Fr_associate zz)) 30 ls st h c n := mx_G_eq (tm_Fr_associate zz) r 30 ls st h c n
theorem d_Ev_init_0 : decode c_Ev_init 0 = .ok (.aload_n 0, 1) := by decide +kernel
theorem d_Ev_init_1 : decode c_Ev_init 1 = .ok (.invokespecial 3, 3) := by decide +kernel
theorem d_Ev_init_4 : decode c_Ev_init 4 = .ok (.aload_n 0, 1) := by decide +kernel
theorem d_Ev_init_5 : decode c_Ev_init 5 = .ok (.iload_n 1, 1) := by decide +kernel
theorem d_Ev_init_6 : decode c_Ev_init 6 = .ok (.putfield 9, 3) := by decide +kernel
theorem d_Ev_init_9 : decode c_Ev_init 9 = .ok (.aload_n 0, 1) := by decide +kernel
theorem d_Ev_init_10 : decode c_Ev_init 10 = .ok (.aload_n 2, 1) := by decide +kernel
theorem d_Ev_init_11 : decode c_Ev_init 11 = .ok (.putfield 15, 3) := by decide +kernel
theorem d_Ev_init_14 : decode c_Ev_init 14 = .ok (.aload_n 0, 1) := by decide +kernel
theorem d_Ev_init_15 : decode c_Ev_init 15 = .ok (.iload_n 3, 1) := by decide +kernel
theorem d_Ev_init_16 : decode c_Ev_init 16 = .ok (.putfield 19, 3) := by decide +kernel
theorem d_Ev_init_19 : decode c_Ev_init 19 = .ok (.return_, 1) := by decide +kernel
def t_Ev_init (zz : Nat × Nat) : List (Nat × mx_O) := [(0, o_aload 1 0),
  (1, o_objinit),
  (4, o_aload 1 0),
  (5, o_iload 1 1),
  (6, o_put 4 0 mx_vI),
  (9, o_aload 1 0),
  (10, o_aload 1 2),
  (11, o_put 4 1 mx_vA),
  (14, o_aload 1 0),
  (15, o_iload 1 3),
  (16, o_put 4 2 mx_vI),
  (19, o_vret)]
set_option maxRecDepth 100000 in
theorem tm_Ev_init (zz : Nat × Nat) : mx_All (fun _ o => mx_Mono o) (t_Ev_init zz) := by
  refine mx_all_cons (mo_st) ?_
  refine mx_all_cons (mo_sc) ?_
  refine mx_all_cons (mo_st) ?_
  refine mx_all_cons (mo_st) ?_
  refine mx_all_cons (mo_sc) ?_
  refine mx_all_cons (mo_st) ?_
  refine mx_all_cons (mo_st) ?_
  refine mx_all_cons (mo_sc) ?_
  refine mx_all_cons (mo_st) ?_
  refine mx_all_cons (mo_st) ?_
  refine mx_all_cons (mo_sc) ?_
  refine mx_all_cons (mo_ret) ?_
  exact mx_all_nil
def S_Ev_init (zz : Nat × Nat) : mx_Sp := mx_S 4 0 0 (t_Ev_init zz)
theorem sm_Ev_init (zz : Nat × Nat) : mx_SMono (S_Ev_init zz) := mx_S_mono (tm_Ev_init zz)
abbrev rm_Ev_init : Room := { frames := 1, cells := 0, slots := 0, locals := 20 }
set_option maxHeartbeats 4000000 in
set_option maxRecDepth 100000 in
theorem m_Ev_init (l : Launch) (zz : Nat × Nat) : mx_Met l y_Ev_init (wsOf y_Ev_init c_Ev_init 4 none) rm_Ev_init wcl (mx_Z zz) 0 0 (S_Ev_init zz) := by
  refine mx_met (cc := c_Ev_init) (ret := none) (by decide) rfl ?_
  intro p e s m args below meth c D A Post X hz hr hlk hnm
  have hm : ∀ w ∈ mw, w.before args s = true := fun w h => X.1.2.2.2.2 w (List.mem_cons_of_mem _ h)
  refine mx_all_cons (ok_aload (fun hl kk => lv_aload_n X.1.1 X.1.2.1 d_Ev_init_0 rfl hl kk) (fun hl kk => lv_aload_nN X.1.1 X.1.2.1 d_Ev_init_0 rfl hl kk)) ?_
  refine mx_all_cons (ok_objinit X ⟨(Nat.le_of_ble_eq_true rfl), (Nat.le_of_ble_eq_true rfl)⟩ (hm _ w433) (hm _ w58) (hm _ w_oic) d_Ev_init_1) ?_
  refine mx_all_cons (ok_aload (fun hl kk => lv_aload_n X.1.1 X.1.2.1 d_Ev_init_4 rfl hl kk) (fun hl kk => lv_aload_nN X.1.1 X.1.2.1 d_Ev_init_4 rfl hl kk)) ?_
  refine mx_all_cons (ok_iload (fun hl kk => lv_iload_n X.1.1 X.1.2.1 d_Ev_init_5 rfl hl kk)) ?_
  refine mx_all_cons (ok_putF (C := "HeaderSchedule$Event") (T := T_Ev) (N := 3) X (mw_up in_Ev) ty_Ev tyok_Ev nm_Ev rfl 0 (by decide) (hm _ w434) (fun _ h9 => h9) rfl hnm rfl (tyok_Ev 0 (by decide)) mx_vI_ok d_Ev_init_6) ?_
  refine mx_all_cons (ok_aload (fun hl kk => lv_aload_n X.1.1 X.1.2.1 d_Ev_init_9 rfl hl kk) (fun hl kk => lv_aload_nN X.1.1 X.1.2.1 d_Ev_init_9 rfl hl kk)) ?_
  refine mx_all_cons (ok_aload (fun hl kk => lv_aload_n X.1.1 X.1.2.1 d_Ev_init_10 rfl hl kk) (fun hl kk => lv_aload_nN X.1.1 X.1.2.1 d_Ev_init_10 rfl hl kk)) ?_
  refine mx_all_cons (ok_putF (C := "HeaderSchedule$Event") (T := T_Ev) (N := 3) X (mw_up in_Ev) ty_Ev tyok_Ev nm_Ev rfl 1 (by decide) (hm _ w436) (fun _ h9 => h9) rfl hnm rfl (tyok_Ev 1 (by decide)) mx_vA_okR d_Ev_init_11) ?_
  refine mx_all_cons (ok_aload (fun hl kk => lv_aload_n X.1.1 X.1.2.1 d_Ev_init_14 rfl hl kk) (fun hl kk => lv_aload_nN X.1.1 X.1.2.1 d_Ev_init_14 rfl hl kk)) ?_
  refine mx_all_cons (ok_iload (fun hl kk => lv_iload_n X.1.1 X.1.2.1 d_Ev_init_15 rfl hl kk)) ?_
  refine mx_all_cons (ok_putF (C := "HeaderSchedule$Event") (T := T_Ev) (N := 3) X (mw_up in_Ev) ty_Ev tyok_Ev nm_Ev rfl 2 (by decide) (hm _ w438) (fun _ h9 => h9) rfl hnm rfl (tyok_Ev 2 (by decide)) mx_vI_ok d_Ev_init_16) ?_
  refine mx_all_cons (ok_vret X hr hlk d_Ev_init_19) ?_
  exact mx_all_nil
theorem st_Ev_init_0 (zz : Nat × Nat) (r : mx_T) (ls : mx_L) (st : List Value) (h : mx_H) (c n : Nat) : mx_G r (t_Ev_init zz) 0 ls st h c n = (o_aload 1 0) r (mx_G r (t_Ev_init zz)) 0 ls st h c n := mx_G_eq (tm_Ev_init zz) r 0 ls st h c n
theorem st_Ev_init_1 (zz : Nat × Nat) (r : mx_T) (ls : mx_L) (st : List Value) (h : mx_H) (c n : Nat) : mx_G r (t_Ev_init zz) 1 ls st h c n = (o_objinit) r (mx_G r (t_Ev_init zz)) 1 ls st h c n := mx_G_eq (tm_Ev_init zz) r 1 ls st h c n
theorem st_Ev_init_4 (zz : Nat × Nat) (r : mx_T) (ls : mx_L) (st : List Value) (h : mx_H) (c n : Nat) : mx_G r (t_Ev_init zz) 4 ls st h c n = (o_aload 1 0) r (mx_G r (t_Ev_init zz)) 4 ls st h c n := mx_G_eq (tm_Ev_init zz) r 4 ls st h c n
theorem st_Ev_init_5 (zz : Nat × Nat) (r : mx_T) (ls : mx_L) (st : List Value) (h : mx_H) (c n : Nat) : mx_G r (t_Ev_init zz) 5 ls st h c n = (o_iload 1 1) r (mx_G r (t_Ev_init zz)) 5 ls st h c n := mx_G_eq (tm_Ev_init zz) r 5 ls st h c n
theorem st_Ev_init_6 (zz : Nat × Nat) (r : mx_T) (ls : mx_L) (st : List Value) (h : mx_H) (c n : Nat) : mx_G r (t_Ev_init zz) 6 ls st h c n = (o_put 4 0 mx_vI) r (mx_G r (t_Ev_init zz)) 6 ls st h c n := mx_G_eq (tm_Ev_init zz) r 6 ls st h c n
theorem st_Ev_init_9 (zz : Nat × Nat) (r : mx_T) (ls : mx_L) (st : List Value) (h : mx_H) (c n : Nat) : mx_G r (t_Ev_init zz) 9 ls st h c n = (o_aload 1 0) r (mx_G r (t_Ev_init zz)) 9 ls st h c n := mx_G_eq (tm_Ev_init zz) r 9 ls st h c n
theorem st_Ev_init_10 (zz : Nat × Nat) (r : mx_T) (ls : mx_L) (st : List Value) (h : mx_H) (c n : Nat) : mx_G r (t_Ev_init zz) 10 ls st h c n = (o_aload 1 2) r (mx_G r (t_Ev_init zz)) 10 ls st h c n := mx_G_eq (tm_Ev_init zz) r 10 ls st h c n
theorem st_Ev_init_11 (zz : Nat × Nat) (r : mx_T) (ls : mx_L) (st : List Value) (h : mx_H) (c n : Nat) : mx_G r (t_Ev_init zz) 11 ls st h c n = (o_put 4 1 mx_vA) r (mx_G r (t_Ev_init zz)) 11 ls st h c n := mx_G_eq (tm_Ev_init zz) r 11 ls st h c n
theorem st_Ev_init_14 (zz : Nat × Nat) (r : mx_T) (ls : mx_L) (st : List Value) (h : mx_H) (c n : Nat) : mx_G r (t_Ev_init zz) 14 ls st h c n = (o_aload 1 0) r (mx_G r (t_Ev_init zz)) 14 ls st h c n := mx_G_eq (tm_Ev_init zz) r 14 ls st h c n
theorem st_Ev_init_15 (zz : Nat × Nat) (r : mx_T) (ls : mx_L) (st : List Value) (h : mx_H) (c n : Nat) : mx_G r (t_Ev_init zz) 15 ls st h c n = (o_iload 1 3) r (mx_G r (t_Ev_init zz)) 15 ls st h c n := mx_G_eq (tm_Ev_init zz) r 15 ls st h c n
theorem st_Ev_init_16 (zz : Nat × Nat) (r : mx_T) (ls : mx_L) (st : List Value) (h : mx_H) (c n : Nat) : mx_G r (t_Ev_init zz) 16 ls st h c n = (o_put 4 2 mx_vI) r (mx_G r (t_Ev_init zz)) 16 ls st h c n := mx_G_eq (tm_Ev_init zz) r 16 ls st h c n
theorem st_Ev_init_19 (zz : Nat × Nat) (r : mx_T) (ls : mx_L) (st : List Value) (h : mx_H) (c n : Nat) : mx_G r (t_Ev_init zz) 19 ls st h c n = (o_vret) r (mx_G r (t_Ev_init zz)) 19 ls st h c n := mx_G_eq (tm_Ev_init zz) r 19 ls st h c n
theorem d_Hs_event_0 : decode c_Hs_event 0 = .ok (.aload_n 0, 1) := by decide +kernel
theorem d_Hs_event_1 : decode c_Hs_event 1 = .ok (.getfield 47, 3) := by decide +kernel
theorem d_Hs_event_4 : decode c_Hs_event 4 = .ok (.ifCond .ne 30, 3) := by decide +kernel
theorem d_Hs_event_7 : decode c_Hs_event 7 = .ok (.aload_n 0, 1) := by decide +kernel
theorem d_Hs_event_8 : decode c_Hs_event 8 = .ok (.getfield 22, 3) := by decide +kernel
theorem d_Hs_event_11 : decode c_Hs_event 11 = .ok (.invokevirtual 58, 3) := by decide +kernel
theorem d_Hs_event_14 : decode c_Hs_event 14 = .ok (.iconst 2, 1) := by decide +kernel
theorem d_Hs_event_15 : decode c_Hs_event 15 = .ok (.if_icmp .ge 19, 3) := by decide +kernel
theorem d_Hs_event_18 : decode c_Hs_event 18 = .ok (.aload_n 0, 1) := by decide +kernel
theorem d_Hs_event_19 : decode c_Hs_event 19 = .ok (.iload_n 1, 1) := by decide +kernel
theorem d_Hs_event_20 : decode c_Hs_event 20 = .ok (.invokevirtual 62, 3) := by decide +kernel
theorem d_Hs_event_23 : decode c_Hs_event 23 = .ok (.ifCond .eq 11, 3) := by decide +kernel
theorem d_Hs_event_26 : decode c_Hs_event 26 = .ok (.iload 5, 2) := by decide +kernel
theorem d_Hs_event_28 : decode c_Hs_event 28 = .ok (.invokestatic 122, 3) := by decide +kernel
theorem d_Hs_event_31 : decode c_Hs_event 31 = .ok (.ifCond .ne 5, 3) := by decide +kernel
theorem d_Hs_event_34 : decode c_Hs_event 34 = .ok (.iconst (-1), 1) := by decide +kernel
theorem d_Hs_event_35 : decode c_Hs_event 35 = .ok (.ireturn, 1) := by decide +kernel
theorem d_Hs_event_36 : decode c_Hs_event 36 = .ok (.aload_n 0, 1) := by decide +kernel
theorem d_Hs_event_37 : decode c_Hs_event 37 = .ok (.iload_n 2, 1) := by decide +kernel
theorem d_Hs_event_38 : decode c_Hs_event 38 = .ok (.invokevirtual 125, 3) := by decide +kernel
theorem d_Hs_event_41 : decode c_Hs_event 41 = .ok (.ifCond .eq 26, 3) := by decide +kernel
theorem d_Hs_event_44 : decode c_Hs_event 44 = .ok (.aload_n 0, 1) := by decide +kernel
theorem d_Hs_event_45 : decode c_Hs_event 45 = .ok (.iload_n 3, 1) := by decide +kernel
theorem d_Hs_event_46 : decode c_Hs_event 46 = .ok (.invokevirtual 125, 3) := by decide +kernel
theorem d_Hs_event_49 : decode c_Hs_event 49 = .ok (.ifCond .eq 18, 3) := by decide +kernel
theorem d_Hs_event_52 : decode c_Hs_event 52 = .ok (.iload 4, 2) := by decide +kernel
theorem d_Hs_event_54 : decode c_Hs_event 54 = .ok (.iconst (-1), 1) := by decide +kernel
theorem d_Hs_event_55 : decode c_Hs_event 55 = .ok (.if_icmp .eq 14, 3) := by decide +kernel
theorem d_Hs_event_58 : decode c_Hs_event 58 = .ok (.aload_n 0, 1) := by decide +kernel
theorem d_Hs_event_59 : decode c_Hs_event 59 = .ok (.iload 4, 2) := by decide +kernel
theorem d_Hs_event_61 : decode c_Hs_event 61 = .ok (.invokevirtual 125, 3) := by decide +kernel
theorem d_Hs_event_64 : decode c_Hs_event 64 = .ok (.ifCond .ne 5, 3) := by decide +kernel
theorem d_Hs_event_67 : decode c_Hs_event 67 = .ok (.iconst (-1), 1) := by decide +kernel
theorem d_Hs_event_68 : decode c_Hs_event 68 = .ok (.ireturn, 1) := by decide +kernel
theorem d_Hs_event_69 : decode c_Hs_event 69 = .ok (.aload_n 0, 1) := by decide +kernel
theorem d_Hs_event_70 : decode c_Hs_event 70 = .ok (.iload_n 2, 1) := by decide +kernel
theorem d_Hs_event_71 : decode c_Hs_event 71 = .ok (.iload_n 3, 1) := by decide +kernel
theorem d_Hs_event_72 : decode c_Hs_event 72 = .ok (.iload 4, 2) := by decide +kernel
theorem d_Hs_event_74 : decode c_Hs_event 74 = .ok (.invokevirtual 115, 3) := by decide +kernel
theorem d_Hs_event_77 : decode c_Hs_event 77 = .ok (.astore 6, 2) := by decide +kernel
theorem d_Hs_event_79 : decode c_Hs_event 79 = .ok (.aload 6, 2) := by decide +kernel
theorem d_Hs_event_81 : decode c_Hs_event 81 = .ok (.invokestatic 128, 3) := by decide +kernel
theorem d_Hs_event_84 : decode c_Hs_event 84 = .ok (.ifCond .ne 5, 3) := by decide +kernel
theorem d_Hs_event_87 : decode c_Hs_event 87 = .ok (.iconst (-1), 1) := by decide +kernel
theorem d_Hs_event_88 : decode c_Hs_event 88 = .ok (.ireturn, 1) := by decide +kernel
theorem d_Hs_event_89 : decode c_Hs_event 89 = .ok (.aload 6, 2) := by decide +kernel
theorem d_Hs_event_91 : decode c_Hs_event 91 = .ok (.astore 7, 2) := by decide +kernel
theorem d_Hs_event_93 : decode c_Hs_event 93 = .ok (.aload 7, 2) := by decide +kernel
theorem d_Hs_event_95 : decode c_Hs_event 95 = .ok (.arraylength, 1) := by decide +kernel
theorem d_Hs_event_96 : decode c_Hs_event 96 = .ok (.istore 8, 2) := by decide +kernel
theorem d_Hs_event_98 : decode c_Hs_event 98 = .ok (.iconst 0, 1) := by decide +kernel
theorem d_Hs_event_99 : decode c_Hs_event 99 = .ok (.istore 9, 2) := by decide +kernel
theorem d_Hs_event_101 : decode c_Hs_event 101 = .ok (.iload 9, 2) := by decide +kernel
theorem d_Hs_event_103 : decode c_Hs_event 103 = .ok (.iload 8, 2) := by decide +kernel
theorem d_Hs_event_105 : decode c_Hs_event 105 = .ok (.if_icmp .ge 21, 3) := by decide +kernel
theorem d_Hs_event_108 : decode c_Hs_event 108 = .ok (.aload 7, 2) := by decide +kernel
theorem d_Hs_event_110 : decode c_Hs_event 110 = .ok (.iload 9, 2) := by decide +kernel
theorem d_Hs_event_112 : decode c_Hs_event 112 = .ok (.aaload, 1) := by decide +kernel
theorem d_Hs_event_113 : decode c_Hs_event 113 = .ok (.astore 10, 2) := by decide +kernel
theorem d_Hs_event_115 : decode c_Hs_event 115 = .ok (.aload 10, 2) := by decide +kernel
theorem d_Hs_event_117 : decode c_Hs_event 117 = .ok (.invokevirtual 132, 3) := by decide +kernel
theorem d_Hs_event_120 : decode c_Hs_event 120 = .ok (.iinc 9 1, 3) := by decide +kernel
theorem d_Hs_event_123 : decode c_Hs_event 123 = .ok (.goto (-22), 3) := by decide +kernel
theorem d_Hs_event_126 : decode c_Hs_event 126 = .ok (.aload_n 0, 1) := by decide +kernel
theorem d_Hs_event_127 : decode c_Hs_event 127 = .ok (.getfield 22, 3) := by decide +kernel
theorem d_Hs_event_130 : decode c_Hs_event 130 = .ok (.new 135, 3) := by decide +kernel
theorem d_Hs_event_133 : decode c_Hs_event 133 = .ok (.dup, 1) := by decide +kernel
theorem d_Hs_event_134 : decode c_Hs_event 134 = .ok (.iload_n 1, 1) := by decide +kernel
theorem d_Hs_event_135 : decode c_Hs_event 135 = .ok (.invokestatic 72, 3) := by decide +kernel
theorem d_Hs_event_138 : decode c_Hs_event 138 = .ok (.aload 6, 2) := by decide +kernel
theorem d_Hs_event_140 : decode c_Hs_event 140 = .ok (.iload 5, 2) := by decide +kernel
theorem d_Hs_event_142 : decode c_Hs_event 142 = .ok (.invokespecial 137, 3) := by decide +kernel
theorem d_Hs_event_145 : decode c_Hs_event 145 = .ok (.invokevirtual 79, 3) := by decide +kernel
theorem d_Hs_event_148 : decode c_Hs_event 148 = .ok (.pop, 1) := by decide +kernel
theorem d_Hs_event_149 : decode c_Hs_event 149 = .ok (.aload_n 0, 1) := by decide +kernel
theorem d_Hs_event_150 : decode c_Hs_event 150 = .ok (.getfield 25, 3) := by decide +kernel
theorem d_Hs_event_153 : decode c_Hs_event 153 = .ok (.iload_n 1, 1) := by decide +kernel
theorem d_Hs_event_154 : decode c_Hs_event 154 = .ok (.iconst 1, 1) := by decide +kernel
theorem d_Hs_event_155 : decode c_Hs_event 155 = .ok (.bastore, 1) := by decide +kernel
theorem d_Hs_event_156 : decode c_Hs_event 156 = .ok (.aload_n 0, 1) := by decide +kernel
theorem d_Hs_event_157 : decode c_Hs_event 157 = .ok (.getfield 22, 3) := by decide +kernel
theorem d_Hs_event_160 : decode c_Hs_event 160 = .ok (.invokevirtual 58, 3) := by decide +kernel
theorem d_Hs_event_163 : decode c_Hs_event 163 = .ok (.iconst 1, 1) := by decide +kernel
theorem d_Hs_event_164 : decode c_Hs_event 164 = .ok (.isub, 1) := by decide +kernel
theorem d_Hs_event_165 : decode c_Hs_event 165 = .ok (.ireturn, 1) := by decide +kernel
def t_Hs_event (zz : Nat × Nat) : List (Nat × mx_O) := [(0, o_aload 1 0),
  (1, o_get 0 8),
  (4, o_if 34 (fun x => ¬ x = 0)),
  (7, o_aload 1 0),
  (8, o_get 0 3),
  (11, o_call 5 136 1 0 0 (mx_rv 9) (S_Al_size zz)),
  (14, o_push 1 (.int 2)),
  (15, o_icmp 34 (fun x y => y ≤ x)),
  (18, o_aload 1 0),
  (19, o_iload 1 1),
  (20, o_call 5 136 2 0 0 (mx_rv 0) (S_Hs_isFree zz)),
  (23, o_if 34 (fun x => x = 0)),
  (26, o_iload 2 5),
  (28, o_call 5 136 1 0 0 (fun _ _ => True) (S_Hs_isTable zz)),
  (31, o_if 36 (fun x => ¬ x = 0)),
  (34, o_push 1 (.int (-1))),
  (35, o_iret),
  (36, o_aload 1 0),
  (37, o_iload 1 2),
  (38, o_call 5 136 2 0 0 (mx_rv 0) (S_Hs_isAssociable zz)),
  (41, o_if 67 (fun x => x = 0)),
  (44, o_aload 1 0),
  (45, o_iload 1 3),
  (46, o_call 5 136 2 0 0 (mx_rv 0) (S_Hs_isAssociable zz)),
  (49, o_if 67 (fun x => x = 0)),
  (52, o_iload 2 4),
  (54, o_push 1 (.int (-1))),
  (55, o_icmp 69 (fun x y => x = y)),
  (58, o_aload 1 0),
  (59, o_iload 2 4),
  (61, o_call 5 136 2 0 0 (mx_rv 0) (S_Hs_isAssociable zz)),
  (64, o_if 69 (fun x => ¬ x = 0)),
  (67, o_push 1 (.int (-1))),
  (68, o_iret),
  (69, o_aload 1 0),
  (70, o_iload 1 2),
  (71, o_iload 1 3),
  (72, o_iload 2 4),
  (74, o_call 5 136 4 2 5 (mx_rv 0) (S_Hs_rowOf zz)),
  (77, o_astore 2 6),
  (79, o_aload 2 6),
  (81, o_call 5 136 1 0 0 (fun _ _ => True) (S_Hs_areAlike zz)),
  (84, o_if 89 (fun x => ¬ x = 0)),
  (87, o_push 1 (.int (-1))),
  (88, o_iret),
  (89, o_aload 2 6),
  (91, o_astore 2 7),
  (93, o_aload 2 7),
  (95, o_alen),
  (96, o_istore 2 8),
  (98, o_push 1 (.int 0)),
  (99, o_istore 2 9),
  (101, o_iload 2 9),
  (103, o_iload 2 8),
  (105, o_icmp 126 (fun x y => y ≤ x)),
  (108, o_aload 2 7),
  (110, o_iload 2 9),
  (112, o_aald),
  (113, o_astore 2 10),
  (115, o_aload 2 10),
  (117, o_call 5 136 1 0 0 (mx_rv 1) (S_Fr_associate zz)),
  (120, o_iinc 9 1),
  (123, o_goto 101),
  (126, o_aload 1 0),
  (127, o_get 0 3),
  (130, o_new 5 136 4 3 [.int 0, .null, .int 0]),
  (133, o_dup),
  (134, o_iload 1 1),
  (135, o_call 5 136 1 0 0 (fun _ _ => True) (S_Hs_protect zz)),
  (138, o_aload 2 6),
  (140, o_iload 2 5),
  (142, o_call 5 136 4 0 0 mx_rr (S_Ev_init zz)),
  (145, o_call 5 136 2 2 128 (mx_rv 9) (S_Al_add zz)),
  (148, o_pop),
  (149, o_aload 1 0),
  (150, o_get 0 4),
  (153, o_iload 1 1),
  (154, o_push 1 (.int 1)),
  (155, o_iast .boolean (vp_nar .boolean)),
  (156, o_aload 1 0),
  (157, o_get 0 3),
  (160, o_call 5 136 1 0 0 (mx_rv 9) (S_Al_size zz)),
  (163, o_push 1 (.int 1)),
  (164, o_ii (fun x y => x - y)),
  (165, o_iret)]
set_option maxRecDepth 100000 in
theorem tm_Hs_event (zz : Nat × Nat) : mx_All (fun _ o => mx_Mono o) (t_Hs_event zz) := by
  refine mx_all_cons (mo_st) ?_
  refine mx_all_cons (mo_st) ?_
  refine mx_all_cons (mo_br) ?_
  refine mx_all_cons (mo_st) ?_
  refine mx_all_cons (mo_st) ?_
  refine mx_all_cons (mo_call (sm_Al_size zz)) ?_
  refine mx_all_cons (mo_st) ?_
  refine mx_all_cons (mo_br) ?_
  refine mx_all_cons (mo_st) ?_
  refine mx_all_cons (mo_st) ?_
  refine mx_all_cons (mo_call (sm_Hs_isFree zz)) ?_
  refine mx_all_cons (mo_br) ?_
  refine mx_all_cons (mo_st) ?_
  refine mx_all_cons (mo_call (sm_Hs_isTable zz)) ?_
  refine mx_all_cons (mo_br) ?_
  refine mx_all_cons (mo_st) ?_
  refine mx_all_cons (mo_ret) ?_
  refine mx_all_cons (mo_st) ?_
  refine mx_all_cons (mo_st) ?_
  refine mx_all_cons (mo_call (sm_Hs_isAssociable zz)) ?_
  refine mx_all_cons (mo_br) ?_
  refine mx_all_cons (mo_st) ?_
  refine mx_all_cons (mo_st) ?_
  refine mx_all_cons (mo_call (sm_Hs_isAssociable zz)) ?_
  refine mx_all_cons (mo_br) ?_
  refine mx_all_cons (mo_st) ?_
  refine mx_all_cons (mo_st) ?_
  refine mx_all_cons (mo_br) ?_
  refine mx_all_cons (mo_st) ?_
  refine mx_all_cons (mo_st) ?_
  refine mx_all_cons (mo_call (sm_Hs_isAssociable zz)) ?_
  refine mx_all_cons (mo_br) ?_
  refine mx_all_cons (mo_st) ?_
  refine mx_all_cons (mo_ret) ?_
  refine mx_all_cons (mo_st) ?_
  refine mx_all_cons (mo_st) ?_
  refine mx_all_cons (mo_st) ?_
  refine mx_all_cons (mo_st) ?_
  refine mx_all_cons (mo_call (sm_Hs_rowOf zz)) ?_
  refine mx_all_cons (mo_st) ?_
  refine mx_all_cons (mo_st) ?_
  refine mx_all_cons (mo_call (sm_Hs_areAlike zz)) ?_
  refine mx_all_cons (mo_br) ?_
  refine mx_all_cons (mo_st) ?_
  refine mx_all_cons (mo_ret) ?_
  refine mx_all_cons (mo_st) ?_
  refine mx_all_cons (mo_st) ?_
  refine mx_all_cons (mo_st) ?_
  refine mx_all_cons (mo_st) ?_
  refine mx_all_cons (mo_st) ?_
  refine mx_all_cons (mo_st) ?_
  refine mx_all_cons (mo_st) ?_
  refine mx_all_cons (mo_st) ?_
  refine mx_all_cons (mo_st) ?_
  refine mx_all_cons (mo_br) ?_
  refine mx_all_cons (mo_st) ?_
  refine mx_all_cons (mo_st) ?_
  refine mx_all_cons (mo_sc) ?_
  refine mx_all_cons (mo_st) ?_
  refine mx_all_cons (mo_st) ?_
  refine mx_all_cons (mo_call (sm_Fr_associate zz)) ?_
  refine mx_all_cons (mo_st) ?_
  refine mx_all_cons (mo_st) ?_
  refine mx_all_cons (mo_st) ?_
  refine mx_all_cons (mo_st) ?_
  refine mx_all_cons (mo_al) ?_
  refine mx_all_cons (mo_st) ?_
  refine mx_all_cons (mo_st) ?_
  refine mx_all_cons (mo_call (sm_Hs_protect zz)) ?_
  refine mx_all_cons (mo_st) ?_
  refine mx_all_cons (mo_st) ?_
  refine mx_all_cons (mo_call (sm_Ev_init zz)) ?_
  refine mx_all_cons (mo_call (sm_Al_add zz)) ?_
  refine mx_all_cons (mo_st) ?_
  refine mx_all_cons (mo_st) ?_
  refine mx_all_cons (mo_st) ?_
  refine mx_all_cons (mo_st) ?_
  refine mx_all_cons (mo_st) ?_
  refine mx_all_cons (mo_sc) ?_
  refine mx_all_cons (mo_st) ?_
  refine mx_all_cons (mo_st) ?_
  refine mx_all_cons (mo_call (sm_Al_size zz)) ?_
  refine mx_all_cons (mo_st) ?_
  refine mx_all_cons (mo_st) ?_
  refine mx_all_cons (mo_ret) ?_
  exact mx_all_nil
def S_Hs_event (zz : Nat × Nat) : mx_Sp := mx_S 11 5 136 (t_Hs_event zz)
theorem sm_Hs_event (zz : Nat × Nat) : mx_SMono (S_Hs_event zz) := mx_S_mono (tm_Hs_event zz)
abbrev rm_Hs_event : Room := { frames := 7, cells := 5, slots := 136, locals := 191 }
set_option maxHeartbeats 4000000 in
set_option maxRecDepth 100000 in
theorem m_Hs_event (l : Launch) (zz : Nat × Nat) : mx_Met l y_Hs_event (wsOf y_Hs_event c_Hs_event 11 (some .int)) rm_Hs_event wcl (mx_Z zz) 5 136 (S_Hs_event zz) := by
  refine mx_met (cc := c_Hs_event) (ret := (some .int)) (by decide) rfl ?_
  intro p e s m args below meth c D A Post X hz hr hlk hnm
  have hm : ∀ w ∈ mw, w.before args s = true := fun w h => X.1.2.2.2.2 w (List.mem_cons_of_mem _ h)
  refine mx_all_cons (ok_aload (fun hl kk => lv_aload_n X.1.1 X.1.2.1 d_Hs_event_0 rfl hl kk) (fun hl kk => lv_aload_nN X.1.1 X.1.2.1 d_Hs_event_0 rfl hl kk)) ?_
  refine mx_all_cons (ok_get (C := "HeaderSchedule") (T := T_Hs) (N := 11) X (mw_up in_Hs) rfl 8 (by decide) (hm _ w166) (fun _ h9 => h9) d_Hs_event_1) ?_
  refine mx_all_cons (ok_if (fun kt kf => lv_if_ne X.1.1 X.1.2.1 d_Hs_event_4 (by decide) kt (fun z => kf (fun g => g z)))) ?_
  refine mx_all_cons (ok_aload (fun hl kk => lv_aload_n X.1.1 X.1.2.1 d_Hs_event_7 rfl hl kk) (fun hl kk => lv_aload_nN X.1.1 X.1.2.1 d_Hs_event_7 rfl hl kk)) ?_
  refine mx_all_cons (ok_get (C := "HeaderSchedule") (T := T_Hs) (N := 11) X (mw_up in_Hs) rfl 3 (by decide) (hm _ w161) (fun _ h9 => h9) d_Hs_event_8) ?_
  refine mx_all_cons (ok_callV (C := "java/util/ArrayList") (T := T_Al) (N := 3) X (mx_Zok_Z zz) hz ⟨(Nat.le_of_ble_eq_true rfl), (Nat.le_of_ble_eq_true rfl)⟩ (m_Al_size l zz) ⟨mx_cwB 0 hm w199 w196 w36 rfl rfl (by decide +kernel) ⟨(Nat.le_of_ble_eq_true rfl), (Nat.le_of_ble_eq_true rfl)⟩, (hm _ w197), hm _ w198⟩ rfl d_Hs_event_11) ?_
  refine mx_all_cons (ok_push (fun kk => lv_iconst X.1.1 X.1.2.1 d_Hs_event_14 (by decide) kk)) ?_
  refine mx_all_cons (ok_icmp (fun kt kf => lv_icmp_ge X.1.1 X.1.2.1 d_Hs_event_15 (by decide) kt kf)) ?_
  refine mx_all_cons (ok_aload (fun hl kk => lv_aload_n X.1.1 X.1.2.1 d_Hs_event_18 rfl hl kk) (fun hl kk => lv_aload_nN X.1.1 X.1.2.1 d_Hs_event_18 rfl hl kk)) ?_
  refine mx_all_cons (ok_iload (fun hl kk => lv_iload_n X.1.1 X.1.2.1 d_Hs_event_19 rfl hl kk)) ?_
  refine mx_all_cons (ok_callV (C := "HeaderSchedule") (T := T_Hs) (N := 11) X (mx_Zok_Z zz) hz ⟨(Nat.le_of_ble_eq_true rfl), (Nat.le_of_ble_eq_true rfl)⟩ (m_Hs_isFree l zz) ⟨mx_cwB 1 hm w203 w200 w33 rfl rfl (by decide +kernel) ⟨(Nat.le_of_ble_eq_true rfl), (Nat.le_of_ble_eq_true rfl)⟩, (hm _ w202), hm _ w0⟩ rfl d_Hs_event_20) ?_
  refine mx_all_cons (ok_if (fun kt kf => lv_if_eq X.1.1 X.1.2.1 d_Hs_event_23 (by decide) kt kf)) ?_
  refine mx_all_cons (ok_iload (fun hl kk => lv_iload X.1.1 X.1.2.1 d_Hs_event_26 hl kk)) ?_
  refine mx_all_cons (ok_callS X (mx_Zok_Z zz) hz ⟨(Nat.le_of_ble_eq_true rfl), (Nat.le_of_ble_eq_true rfl)⟩ (m_Hs_isTable l zz) ⟨mx_cwB 1 hm w409 w407 w33 rfl rfl (by decide +kernel) ⟨(Nat.le_of_ble_eq_true rfl), (Nat.le_of_ble_eq_true rfl)⟩, (hm _ w408)⟩ d_Hs_event_28) ?_
  refine mx_all_cons (ok_if (fun kt kf => lv_if_ne X.1.1 X.1.2.1 d_Hs_event_31 (by decide) kt (fun z => kf (fun g => g z)))) ?_
  refine mx_all_cons (ok_push (fun kk => lv_iconst X.1.1 X.1.2.1 d_Hs_event_34 (by decide) kk)) ?_
  refine mx_all_cons (ok_iret X hr hlk d_Hs_event_35) ?_
  refine mx_all_cons (ok_aload (fun hl kk => lv_aload_n X.1.1 X.1.2.1 d_Hs_event_36 rfl hl kk) (fun hl kk => lv_aload_nN X.1.1 X.1.2.1 d_Hs_event_36 rfl hl kk)) ?_
  refine mx_all_cons (ok_iload (fun hl kk => lv_iload_n X.1.1 X.1.2.1 d_Hs_event_37 rfl hl kk)) ?_
  refine mx_all_cons (ok_callV (C := "HeaderSchedule") (T := T_Hs) (N := 11) X (mx_Zok_Z zz) hz ⟨(Nat.le_of_ble_eq_true rfl), (Nat.le_of_ble_eq_true rfl)⟩ (m_Hs_isAssociable l zz) ⟨mx_cwB 1 hm w413 w410 w33 rfl rfl (by decide +kernel) ⟨(Nat.le_of_ble_eq_true rfl), (Nat.le_of_ble_eq_true rfl)⟩, (hm _ w412), hm _ w7⟩ rfl d_Hs_event_38) ?_
  refine mx_all_cons (ok_if (fun kt kf => lv_if_eq X.1.1 X.1.2.1 d_Hs_event_41 (by decide) kt kf)) ?_
  refine mx_all_cons (ok_aload (fun hl kk => lv_aload_n X.1.1 X.1.2.1 d_Hs_event_44 rfl hl kk) (fun hl kk => lv_aload_nN X.1.1 X.1.2.1 d_Hs_event_44 rfl hl kk)) ?_
  refine mx_all_cons (ok_iload (fun hl kk => lv_iload_n X.1.1 X.1.2.1 d_Hs_event_45 rfl hl kk)) ?_
  refine mx_all_cons (ok_callV (C := "HeaderSchedule") (T := T_Hs) (N := 11) X (mx_Zok_Z zz) hz ⟨(Nat.le_of_ble_eq_true rfl), (Nat.le_of_ble_eq_true rfl)⟩ (m_Hs_isAssociable l zz) ⟨mx_cwB 1 hm w413 w410 w33 rfl rfl (by decide +kernel) ⟨(Nat.le_of_ble_eq_true rfl), (Nat.le_of_ble_eq_true rfl)⟩, (hm _ w412), hm _ w7⟩ rfl d_Hs_event_46) ?_
  refine mx_all_cons (ok_if (fun kt kf => lv_if_eq X.1.1 X.1.2.1 d_Hs_event_49 (by decide) kt kf)) ?_
  refine mx_all_cons (ok_iload (fun hl kk => lv_iload X.1.1 X.1.2.1 d_Hs_event_52 hl kk)) ?_
  refine mx_all_cons (ok_push (fun kk => lv_iconst X.1.1 X.1.2.1 d_Hs_event_54 (by decide) kk)) ?_
  refine mx_all_cons (ok_icmp (fun kt kf => lv_icmp_eq X.1.1 X.1.2.1 d_Hs_event_55 (by decide) kt kf)) ?_
  refine mx_all_cons (ok_aload (fun hl kk => lv_aload_n X.1.1 X.1.2.1 d_Hs_event_58 rfl hl kk) (fun hl kk => lv_aload_nN X.1.1 X.1.2.1 d_Hs_event_58 rfl hl kk)) ?_
  refine mx_all_cons (ok_iload (fun hl kk => lv_iload X.1.1 X.1.2.1 d_Hs_event_59 hl kk)) ?_
  refine mx_all_cons (ok_callV (C := "HeaderSchedule") (T := T_Hs) (N := 11) X (mx_Zok_Z zz) hz ⟨(Nat.le_of_ble_eq_true rfl), (Nat.le_of_ble_eq_true rfl)⟩ (m_Hs_isAssociable l zz) ⟨mx_cwB 1 hm w413 w410 w33 rfl rfl (by decide +kernel) ⟨(Nat.le_of_ble_eq_true rfl), (Nat.le_of_ble_eq_true rfl)⟩, (hm _ w412), hm _ w7⟩ rfl d_Hs_event_61) ?_
  refine mx_all_cons (ok_if (fun kt kf => lv_if_ne X.1.1 X.1.2.1 d_Hs_event_64 (by decide) kt (fun z => kf (fun g => g z)))) ?_
  refine mx_all_cons (ok_push (fun kk => lv_iconst X.1.1 X.1.2.1 d_Hs_event_67 (by decide) kk)) ?_
  refine mx_all_cons (ok_iret X hr hlk d_Hs_event_68) ?_
  refine mx_all_cons (ok_aload (fun hl kk => lv_aload_n X.1.1 X.1.2.1 d_Hs_event_69 rfl hl kk) (fun hl kk => lv_aload_nN X.1.1 X.1.2.1 d_Hs_event_69 rfl hl kk)) ?_
  refine mx_all_cons (ok_iload (fun hl kk => lv_iload_n X.1.1 X.1.2.1 d_Hs_event_70 rfl hl kk)) ?_
  refine mx_all_cons (ok_iload (fun hl kk => lv_iload_n X.1.1 X.1.2.1 d_Hs_event_71 rfl hl kk)) ?_
  refine mx_all_cons (ok_iload (fun hl kk => lv_iload X.1.1 X.1.2.1 d_Hs_event_72 hl kk)) ?_
  refine mx_all_cons (ok_callV (C := "HeaderSchedule") (T := T_Hs) (N := 11) X (mx_Zok_Z zz) hz ⟨(Nat.le_of_ble_eq_true rfl), (Nat.le_of_ble_eq_true rfl)⟩ (m_Hs_rowOf l zz) ⟨mx_cwB 3 hm w393 w390 w33 rfl rfl (by decide +kernel) ⟨(Nat.le_of_ble_eq_true rfl), (Nat.le_of_ble_eq_true rfl)⟩, (hm _ w392), hm _ w6⟩ rfl d_Hs_event_74) ?_
  refine mx_all_cons (ok_astore (fun hl kk => lv_astore X.1.1 X.1.2.1 d_Hs_event_77 hl (by decide) rfl kk) (fun hl kk => lv_astoreN X.1.1 X.1.2.1 d_Hs_event_77 hl (by decide) rfl kk)) ?_
  refine mx_all_cons (ok_aload (fun hl kk => lv_aload X.1.1 X.1.2.1 d_Hs_event_79 hl kk) (fun hl kk => lv_aloadN X.1.1 X.1.2.1 d_Hs_event_79 hl kk)) ?_
  refine mx_all_cons (ok_callS X (mx_Zok_Z zz) hz ⟨(Nat.le_of_ble_eq_true rfl), (Nat.le_of_ble_eq_true rfl)⟩ (m_Hs_areAlike l zz) ⟨mx_cwB 1 hm w417 w415 w33 rfl rfl (by decide +kernel) ⟨(Nat.le_of_ble_eq_true rfl), (Nat.le_of_ble_eq_true rfl)⟩, (hm _ w416)⟩ d_Hs_event_81) ?_
  refine mx_all_cons (ok_if (fun kt kf => lv_if_ne X.1.1 X.1.2.1 d_Hs_event_84 (by decide) kt (fun z => kf (fun g => g z)))) ?_
  refine mx_all_cons (ok_push (fun kk => lv_iconst X.1.1 X.1.2.1 d_Hs_event_87 (by decide) kk)) ?_
  refine mx_all_cons (ok_iret X hr hlk d_Hs_event_88) ?_
  refine mx_all_cons (ok_aload (fun hl kk => lv_aload X.1.1 X.1.2.1 d_Hs_event_89 hl kk) (fun hl kk => lv_aloadN X.1.1 X.1.2.1 d_Hs_event_89 hl kk)) ?_
  refine mx_all_cons (ok_astore (fun hl kk => lv_astore X.1.1 X.1.2.1 d_Hs_event_91 hl (by decide) rfl kk) (fun hl kk => lv_astoreN X.1.1 X.1.2.1 d_Hs_event_91 hl (by decide) rfl kk)) ?_
  refine mx_all_cons (ok_aload (fun hl kk => lv_aload X.1.1 X.1.2.1 d_Hs_event_93 hl kk) (fun hl kk => lv_aloadN X.1.1 X.1.2.1 d_Hs_event_93 hl kk)) ?_
  refine mx_all_cons (ok_alen X d_Hs_event_95) ?_
  refine mx_all_cons (ok_istore (fun hl kk => lv_istore X.1.1 X.1.2.1 d_Hs_event_96 hl (by decide) rfl kk)) ?_
  refine mx_all_cons (ok_push (fun kk => lv_iconst X.1.1 X.1.2.1 d_Hs_event_98 (by decide) kk)) ?_
  refine mx_all_cons (ok_istore (fun hl kk => lv_istore X.1.1 X.1.2.1 d_Hs_event_99 hl (by decide) rfl kk)) ?_
  refine mx_all_cons (ok_iload (fun hl kk => lv_iload X.1.1 X.1.2.1 d_Hs_event_101 hl kk)) ?_
  refine mx_all_cons (ok_iload (fun hl kk => lv_iload X.1.1 X.1.2.1 d_Hs_event_103 hl kk)) ?_
  refine mx_all_cons (ok_icmp (fun kt kf => lv_icmp_ge X.1.1 X.1.2.1 d_Hs_event_105 (by decide) kt kf)) ?_
  refine mx_all_cons (ok_aload (fun hl kk => lv_aload X.1.1 X.1.2.1 d_Hs_event_108 hl kk) (fun hl kk => lv_aloadN X.1.1 X.1.2.1 d_Hs_event_108 hl kk)) ?_
  refine mx_all_cons (ok_iload (fun hl kk => lv_iload X.1.1 X.1.2.1 d_Hs_event_110 hl kk)) ?_
  refine mx_all_cons (ok_aald X d_Hs_event_112) ?_
  refine mx_all_cons (ok_astore (fun hl kk => lv_astore X.1.1 X.1.2.1 d_Hs_event_113 hl (by decide) rfl kk) (fun hl kk => lv_astoreN X.1.1 X.1.2.1 d_Hs_event_113 hl (by decide) rfl kk)) ?_
  refine mx_all_cons (ok_aload (fun hl kk => lv_aload X.1.1 X.1.2.1 d_Hs_event_115 hl kk) (fun hl kk => lv_aloadN X.1.1 X.1.2.1 d_Hs_event_115 hl kk)) ?_
  refine mx_all_cons (ok_callV (C := "HeaderSchedule$Frame") (T := T_Fr) (N := 8) X (mx_Zok_Z zz) hz ⟨(Nat.le_of_ble_eq_true rfl), (Nat.le_of_ble_eq_true rfl)⟩ (m_Fr_associate l zz) ⟨mx_cwB 0 hm w425 w422 w41 rfl rfl (by decide +kernel) ⟨(Nat.le_of_ble_eq_true rfl), (Nat.le_of_ble_eq_true rfl)⟩, (hm _ w423), hm _ w424⟩ rfl d_Hs_event_117) ?_
  refine mx_all_cons (ok_iinc X (by decide) (by decide) d_Hs_event_120) ?_
  refine mx_all_cons (ok_goto X d_Hs_event_123 (by decide)) ?_
  refine mx_all_cons (ok_aload (fun hl kk => lv_aload_n X.1.1 X.1.2.1 d_Hs_event_126 rfl hl kk) (fun hl kk => lv_aload_nN X.1.1 X.1.2.1 d_Hs_event_126 rfl hl kk)) ?_
  refine mx_all_cons (ok_get (C := "HeaderSchedule") (T := T_Hs) (N := 11) X (mw_up in_Hs) rfl 3 (by decide) (hm _ w161) (fun _ h9 => h9) d_Hs_event_127) ?_
  refine mx_all_cons (ok_new (C := "HeaderSchedule$Event") (T := T_Ev) X ⟨(Nat.le_of_ble_eq_true rfl), (Nat.le_of_ble_eq_true rfl)⟩ (mw_up in_Ev) ty_Ev tyok_Ev rfl (hm _ w428) (hm _ w429) (hm _ w50) (by decide) d_Hs_event_130) ?_
  refine mx_all_cons (ok_dup X d_Hs_event_133) ?_
  refine mx_all_cons (ok_iload (fun hl kk => lv_iload_n X.1.1 X.1.2.1 d_Hs_event_134 rfl hl kk)) ?_
  refine mx_all_cons (ok_callS X (mx_Zok_Z zz) hz ⟨(Nat.le_of_ble_eq_true rfl), (Nat.le_of_ble_eq_true rfl)⟩ (m_Hs_protect l zz) ⟨mx_cwB 1 hm w211 w209 w33 rfl rfl (by decide +kernel) ⟨(Nat.le_of_ble_eq_true rfl), (Nat.le_of_ble_eq_true rfl)⟩, (hm _ w210)⟩ d_Hs_event_135) ?_
  refine mx_all_cons (ok_aload (fun hl kk => lv_aload X.1.1 X.1.2.1 d_Hs_event_138 hl kk) (fun hl kk => lv_aloadN X.1.1 X.1.2.1 d_Hs_event_138 hl kk)) ?_
  refine mx_all_cons (ok_iload (fun hl kk => lv_iload X.1.1 X.1.2.1 d_Hs_event_140 hl kk)) ?_
  refine mx_all_cons (ok_callI X (mx_Zok_Z zz) hz ⟨(Nat.le_of_ble_eq_true rfl), (Nat.le_of_ble_eq_true rfl)⟩ (m_Ev_init l zz) ⟨mx_cwB 3 hm w432 w430 w50 rfl rfl (by decide +kernel) ⟨(Nat.le_of_ble_eq_true rfl), (Nat.le_of_ble_eq_true rfl)⟩, rfl, (hm _ w431)⟩ d_Hs_event_142) ?_
  refine mx_all_cons (ok_callV (C := "java/util/ArrayList") (T := T_Al) (N := 3) X (mx_Zok_Z zz) hz ⟨(Nat.le_of_ble_eq_true rfl), (Nat.le_of_ble_eq_true rfl)⟩ (m_Al_add l zz) ⟨mx_cwB 1 hm w260 w257 w36 rfl rfl (by decide +kernel) ⟨(Nat.le_of_ble_eq_true rfl), (Nat.le_of_ble_eq_true rfl)⟩, (hm _ w258), hm _ w259⟩ rfl d_Hs_event_145) ?_
  refine mx_all_cons (ok_pop X d_Hs_event_148) ?_
  refine mx_all_cons (ok_aload (fun hl kk => lv_aload_n X.1.1 X.1.2.1 d_Hs_event_149 rfl hl kk) (fun hl kk => lv_aload_nN X.1.1 X.1.2.1 d_Hs_event_149 rfl hl kk)) ?_
  refine mx_all_cons (ok_get (C := "HeaderSchedule") (T := T_Hs) (N := 11) X (mw_up in_Hs) rfl 4 (by decide) (hm _ w162) (fun _ h9 => h9) d_Hs_event_150) ?_
  refine mx_all_cons (ok_iload (fun hl kk => lv_iload_n X.1.1 X.1.2.1 d_Hs_event_153 rfl hl kk)) ?_
  refine mx_all_cons (ok_push (fun kk => lv_iconst X.1.1 X.1.2.1 d_Hs_event_154 (by decide) kk)) ?_
  refine mx_all_cons (ok_zast X d_Hs_event_155) ?_
  refine mx_all_cons (ok_aload (fun hl kk => lv_aload_n X.1.1 X.1.2.1 d_Hs_event_156 rfl hl kk) (fun hl kk => lv_aload_nN X.1.1 X.1.2.1 d_Hs_event_156 rfl hl kk)) ?_
  refine mx_all_cons (ok_get (C := "HeaderSchedule") (T := T_Hs) (N := 11) X (mw_up in_Hs) rfl 3 (by decide) (hm _ w161) (fun _ h9 => h9) d_Hs_event_157) ?_
  refine mx_all_cons (ok_callV (C := "java/util/ArrayList") (T := T_Al) (N := 3) X (mx_Zok_Z zz) hz ⟨(Nat.le_of_ble_eq_true rfl), (Nat.le_of_ble_eq_true rfl)⟩ (m_Al_size l zz) ⟨mx_cwB 0 hm w199 w196 w36 rfl rfl (by decide +kernel) ⟨(Nat.le_of_ble_eq_true rfl), (Nat.le_of_ble_eq_true rfl)⟩, (hm _ w197), hm _ w198⟩ rfl d_Hs_event_160) ?_
  refine mx_all_cons (ok_push (fun kk => lv_iconst X.1.1 X.1.2.1 d_Hs_event_163 (by decide) kk)) ?_
  refine mx_all_cons (ok_ii (fun kk => lv_isub X.1.1 X.1.2.1 d_Hs_event_164 kk)) ?_
  refine mx_all_cons (ok_iret X hr hlk d_Hs_event_165) ?_
  exact mx_all_nil
theorem st_Hs_event_0 (zz : Nat × Nat) (r : mx_T) (ls : mx_L) (st : List Value) (h : mx_H) (c n : Nat) : mx_G r (t_Hs_event zz) 0 ls st h c n = (o_aload 1 0) r (mx_G r (t_Hs_event zz)) 0 ls st h c n := mx_G_eq (tm_Hs_event zz) r 0 ls st h c n
theorem st_Hs_event_1 (zz : Nat × Nat) (r : mx_T) (ls : mx_L) (st : List Value) (h : mx_H) (c n : Nat) : mx_G r (t_Hs_event zz) 1 ls st h c n = (o_get 0 8) r (mx_G r (t_Hs_event zz)) 1 ls st h c n := mx_G_eq (tm_Hs_event zz) r 1 ls st h c n
theorem st_Hs_event_4 (zz : Nat × Nat) (r : mx_T) (ls : mx_L) (st : List Value) (h : mx_H) (c n : Nat) : mx_G r (t_Hs_event zz) 4 ls st h c n = (o_if 34 (fun x => ¬ x = 0)) r (mx_G r (t_Hs_event zz)) 4 ls st h c n := mx_G_eq (tm_Hs_event zz) r 4 ls st h c n
theorem st_Hs_event_7 (zz : Nat × Nat) (r : mx_T) (ls : mx_L) (st : List Value) (h : mx_H) (c n : Nat) : mx_G r (t_Hs_event zz) 7 ls st h c n = (o_aload 1 0) r (mx_G r (t_Hs_event zz)) 7 ls st h c n := mx_G_eq (tm_Hs_event zz) r 7 ls st h c n
theorem st_Hs_event_8 (zz : Nat × Nat) (r : mx_T) (ls : mx_L) (st : List Value) (h : mx_H) (c n : Nat) : mx_G r (t_Hs_event zz) 8 ls st h c n = (o_get 0 3) r (mx_G r (t_Hs_event zz)) 8 ls st h c n := mx_G_eq (tm_Hs_event zz) r 8 ls st h c n
theorem st_Hs_event_11 (zz : Nat × Nat) (r : mx_T) (ls : mx_L) (st : List Value) (h : mx_H) (c n : Nat) : mx_G r (t_Hs_event zz) 11 ls st h c n = (o_call 5 136 1 0 0 (mx_rv 9) (S_Al_size zz)) r (mx_G r (t_Hs_event zz)) 11 ls st h c n := mx_G_eq (tm_Hs_event zz) r 11 ls st h c n
theorem st_Hs_event_14 (zz : Nat × Nat) (r : mx_T) (ls : mx_L) (st : List Value) (h : mx_H) (c n : Nat) : mx_G r (t_Hs_event zz) 14 ls st h c n = (o_push 1 (.int 2)) r (mx_G r (t_Hs_event zz)) 14 ls st h c n := mx_G_eq (tm_Hs_event zz) r 14 ls st h c n
theorem st_Hs_event_15 (zz : Nat × Nat) (r : mx_T) (ls : mx_L) (st : List Value) (h : mx_H) (c n : Nat) : mx_G r (t_Hs_event zz) 15 ls st h c n = (o_icmp 34 (fun x y => y ≤ x)) r (mx_G r (t_Hs_event zz)) 15 ls st h c n := mx_G_eq (tm_Hs_event zz) r 15 ls st h c n
theorem st_Hs_event_18 (zz : Nat × Nat) (r : mx_T) (ls : mx_L) (st : List Value) (h : mx_H) (c n : Nat) : mx_G r (t_Hs_event zz) 18 ls st h c n = (o_aload 1 0) r (mx_G r (t_Hs_event zz)) 18 ls st h c n := mx_G_eq (tm_Hs_event zz) r 18 ls st h c n
theorem st_Hs_event_19 (zz : Nat × Nat) (r : mx_T) (ls : mx_L) (st : List Value) (h : mx_H) (c n : Nat) : mx_G r (t_Hs_event zz) 19 ls st h c n = (o_iload 1 1) r (mx_G r (t_Hs_event zz)) 19 ls st h c n := mx_G_eq (tm_Hs_event zz) r 19 ls st h c n
theorem st_Hs_event_20 (zz : Nat × Nat) (r : mx_T) (ls : mx_L) (st : List Value) (h : mx_H) (c n : Nat) : mx_G r (t_Hs_event zz) 20 ls st h c n = (o_call 5 136 2 0 0 (mx_rv 0) (S_Hs_isFree zz)) r (mx_G r (t_Hs_event zz)) 20 ls st h c n := mx_G_eq (tm_Hs_event zz) r 20 ls st h c n
theorem st_Hs_event_23 (zz : Nat × Nat) (r : mx_T) (ls : mx_L) (st : List Value) (h : mx_H) (c n : Nat) : mx_G r (t_Hs_event zz) 23 ls st h c n = (o_if 34 (fun x => x = 0)) r (mx_G r (t_Hs_event zz)) 23 ls st h c n := mx_G_eq (tm_Hs_event zz) r 23 ls st h c n
theorem st_Hs_event_26 (zz : Nat × Nat) (r : mx_T) (ls : mx_L) (st : List Value) (h : mx_H) (c n : Nat) : mx_G r (t_Hs_event zz) 26 ls st h c n = (o_iload 2 5) r (mx_G r (t_Hs_event zz)) 26 ls st h c n := mx_G_eq (tm_Hs_event zz) r 26 ls st h c n
theorem st_Hs_event_28 (zz : Nat × Nat) (r : mx_T) (ls : mx_L) (st : List Value) (h : mx_H) (c n : Nat) : mx_G r (t_Hs_event zz) 28 ls st h c n = (o_call 5 136 1 0 0 (fun _ _ => True) (S_Hs_isTable zz)) r (mx_G r (t_Hs_event zz)) 28 ls st h c n := mx_G_eq (tm_Hs_event zz) r 28 ls st h c n
theorem st_Hs_event_31 (zz : Nat × Nat) (r : mx_T) (ls : mx_L) (st : List Value) (h : mx_H) (c n : Nat) : mx_G r (t_Hs_event zz) 31 ls st h c n = (o_if 36 (fun x => ¬ x = 0)) r (mx_G r (t_Hs_event zz)) 31 ls st h c n := mx_G_eq (tm_Hs_event zz) r 31 ls st h c n
theorem st_Hs_event_34 (zz : Nat × Nat) (r : mx_T) (ls : mx_L) (st : List Value) (h : mx_H) (c n : Nat) : mx_G r (t_Hs_event zz) 34 ls st h c n = (o_push 1 (.int (-1))) r (mx_G r (t_Hs_event zz)) 34 ls st h c n := mx_G_eq (tm_Hs_event zz) r 34 ls st h c n
theorem st_Hs_event_35 (zz : Nat × Nat) (r : mx_T) (ls : mx_L) (st : List Value) (h : mx_H) (c n : Nat) : mx_G r (t_Hs_event zz) 35 ls st h c n = (o_iret) r (mx_G r (t_Hs_event zz)) 35 ls st h c n := mx_G_eq (tm_Hs_event zz) r 35 ls st h c n
theorem st_Hs_event_36 (zz : Nat × Nat) (r : mx_T) (ls : mx_L) (st : List Value) (h : mx_H) (c n : Nat) : mx_G r (t_Hs_event zz) 36 ls st h c n = (o_aload 1 0) r (mx_G r (t_Hs_event zz)) 36 ls st h c n := mx_G_eq (tm_Hs_event zz) r 36 ls st h c n
theorem st_Hs_event_37 (zz : Nat × Nat) (r : mx_T) (ls : mx_L) (st : List Value) (h : mx_H) (c n : Nat) : mx_G r (t_Hs_event zz) 37 ls st h c n = (o_iload 1 2) r (mx_G r (t_Hs_event zz)) 37 ls st h c n := mx_G_eq (tm_Hs_event zz) r 37 ls st h c n
theorem st_Hs_event_38 (zz : Nat × Nat) (r : mx_T) (ls : mx_L) (st : List Value) (h : mx_H) (c n : Nat) : mx_G r (t_Hs_event zz) 38 ls st h c n = (o_call 5 136 2 0 0 (mx_rv 0) (S_Hs_isAssociable zz)) r (mx_G r (t_Hs_event zz)) 38 ls st h c n := mx_G_eq (tm_Hs_event zz) r 38 ls st h c n
theorem st_Hs_event_41 (zz : Nat × Nat) (r : mx_T) (ls : mx_L) (st : List Value) (h : mx_H) (c n : Nat) : mx_G r (t_Hs_event zz) 41 ls st h c n = (o_if 67 (fun x => x = 0)) r (mx_G r (t_Hs_event zz)) 41 ls st h c n := mx_G_eq (tm_Hs_event zz) r 41 ls st h c n
theorem st_Hs_event_44 (zz : Nat × Nat) (r : mx_T) (ls : mx_L) (st : List Value) (h : mx_H) (c n : Nat) : mx_G r (t_Hs_event zz) 44 ls st h c n = (o_aload 1 0) r (mx_G r (t_Hs_event zz)) 44 ls st h c n := mx_G_eq (tm_Hs_event zz) r 44 ls st h c n
theorem st_Hs_event_45 (zz : Nat × Nat) (r : mx_T) (ls : mx_L) (st : List Value) (h : mx_H) (c n : Nat) : mx_G r (t_Hs_event zz) 45 ls st h c n = (o_iload 1 3) r (mx_G r (t_Hs_event zz)) 45 ls st h c n := mx_G_eq (tm_Hs_event zz) r 45 ls st h c n
theorem st_Hs_event_46 (zz : Nat × Nat) (r : mx_T) (ls : mx_L) (st : List Value) (h : mx_H) (c n : Nat) : mx_G r (t_Hs_event zz) 46 ls st h c n = (o_call 5 136 2 0 0 (mx_rv 0) (S_Hs_isAssociable zz)) r (mx_G r (t_Hs_event zz)) 46 ls st h c n := mx_G_eq (tm_Hs_event zz) r 46 ls st h c n
theorem st_Hs_event_49 (zz : Nat × Nat) (r : mx_T) (ls : mx_L) (st : List Value) (h : mx_H) (c n : Nat) : mx_G r (t_Hs_event zz) 49 ls st h c n = (o_if 67 (fun x => x = 0)) r (mx_G r (t_Hs_event zz)) 49 ls st h c n := mx_G_eq (tm_Hs_event zz) r 49 ls st h c n
theorem st_Hs_event_52 (zz : Nat × Nat) (r : mx_T) (ls : mx_L) (st : List Value) (h : mx_H) (c n : Nat) : mx_G r (t_Hs_event zz) 52 ls st h c n = (o_iload 2 4) r (mx_G r (t_Hs_event zz)) 52 ls st h c n := mx_G_eq (tm_Hs_event zz) r 52 ls st h c n
theorem st_Hs_event_54 (zz : Nat × Nat) (r : mx_T) (ls : mx_L) (st : List Value) (h : mx_H) (c n : Nat) : mx_G r (t_Hs_event zz) 54 ls st h c n = (o_push 1 (.int (-1))) r (mx_G r (t_Hs_event zz)) 54 ls st h c n := mx_G_eq (tm_Hs_event zz) r 54 ls st h c n
theorem st_Hs_event_55 (zz : Nat × Nat) (r : mx_T) (ls : mx_L) (st : List Value) (h : mx_H) (c n : Nat) : mx_G r (t_Hs_event zz) 55 ls st h c n = (o_icmp 69 (fun x y => x = y)) r (mx_G r (t_Hs_event zz)) 55 ls st h c n := mx_G_eq (tm_Hs_event zz) r 55 ls st h c n
theorem st_Hs_event_58 (zz : Nat × Nat) (r : mx_T) (ls : mx_L) (st : List Value) (h : mx_H) (c n : Nat) : mx_G r (t_Hs_event zz) 58 ls st h c n = (o_aload 1 0) r (mx_G r (t_Hs_event zz)) 58 ls st h c n := mx_G_eq (tm_Hs_event zz) r 58 ls st h c n
theorem st_Hs_event_59 (zz : Nat × Nat) (r : mx_T) (ls : mx_L) (st : List Value) (h : mx_H) (c n : Nat) : mx_G r (t_Hs_event zz) 59 ls st h c n = (o_iload 2 4) r (mx_G r (t_Hs_event zz)) 59 ls st h c n := mx_G_eq (tm_Hs_event zz) r 59 ls st h c n
theorem st_Hs_event_61 (zz : Nat × Nat) (r : mx_T) (ls : mx_L) (st : List Value) (h : mx_H) (c n : Nat) : mx_G r (t_Hs_event zz) 61 ls st h c n = (o_call 5 136 2 0 0 (mx_rv 0) (S_Hs_isAssociable zz)) r (mx_G r (t_Hs_event zz)) 61 ls st h c n := mx_G_eq (tm_Hs_event zz) r 61 ls st h c n
theorem st_Hs_event_64 (zz : Nat × Nat) (r : mx_T) (ls : mx_L) (st : List Value) (h : mx_H) (c n : Nat) : mx_G r (t_Hs_event zz) 64 ls st h c n = (o_if 69 (fun x => ¬ x = 0)) r (mx_G r (t_Hs_event zz)) 64 ls st h c n := mx_G_eq (tm_Hs_event zz) r 64 ls st h c n
theorem st_Hs_event_67 (zz : Nat × Nat) (r : mx_T) (ls : mx_L) (st : List Value) (h : mx_H) (c n : Nat) : mx_G r (t_Hs_event zz) 67 ls st h c n = (o_push 1 (.int (-1))) r (mx_G r (t_Hs_event zz)) 67 ls st h c n := mx_G_eq (tm_Hs_event zz) r 67 ls st h c n
theorem st_Hs_event_68 (zz : Nat × Nat) (r : mx_T) (ls : mx_L) (st : List Value) (h : mx_H) (c n : Nat) : mx_G r (t_Hs_event zz) 68 ls st h c n = (o_iret) r (mx_G r (t_Hs_event zz)) 68 ls st h c n := mx_G_eq (tm_Hs_event zz) r 68 ls st h c n
theorem st_Hs_event_69 (zz : Nat × Nat) (r : mx_T) (ls : mx_L) (st : List Value) (h : mx_H) (c n : Nat) : mx_G r (t_Hs_event zz) 69 ls st h c n = (o_aload 1 0) r (mx_G r (t_Hs_event zz)) 69 ls st h c n := mx_G_eq (tm_Hs_event zz) r 69 ls st h c n
theorem st_Hs_event_70 (zz : Nat × Nat) (r : mx_T) (ls : mx_L) (st : List Value) (h : mx_H) (c n : Nat) : mx_G r (t_Hs_event zz) 70 ls st h c n = (o_iload 1 2) r (mx_G r (t_Hs_event zz)) 70 ls st h c n := mx_G_eq (tm_Hs_event zz) r 70 ls st h c n
theorem st_Hs_event_71 (zz : Nat × Nat) (r : mx_T) (ls : mx_L) (st : List Value) (h : mx_H) (c n : Nat) : mx_G r (t_Hs_event zz) 71 ls st h c n = (o_iload 1 3) r (mx_G r (t_Hs_event zz)) 71 ls st h c n := mx_G_eq (tm_Hs_event zz) r 71 ls st h c n
theorem st_Hs_event_72 (zz : Nat × Nat) (r : mx_T) (ls : mx_L) (st : List Value) (h : mx_H) (c n : Nat) : mx_G r (t_Hs_event zz) 72 ls st h c n = (o_iload 2 4) r (mx_G r (t_Hs_event zz)) 72 ls st h c n := mx_G_eq (tm_Hs_event zz) r 72 ls st h c n
theorem st_Hs_event_74 (zz : Nat × Nat) (r : mx_T) (ls : mx_L) (st : List Value) (h : mx_H) (c n : Nat) : mx_G r (t_Hs_event zz) 74 ls st h c n = (o_call 5 136 4 2 5 (mx_rv 0) (S_Hs_rowOf zz)) r (mx_G r (t_Hs_event zz)) 74 ls st h c n := mx_G_eq (tm_Hs_event zz) r 74 ls st h c n
theorem st_Hs_event_77 (zz : Nat × Nat) (r : mx_T) (ls : mx_L) (st : List Value) (h : mx_H) (c n : Nat) : mx_G r (t_Hs_event zz) 77 ls st h c n = (o_astore 2 6) r (mx_G r (t_Hs_event zz)) 77 ls st h c n := mx_G_eq (tm_Hs_event zz) r 77 ls st h c n
theorem st_Hs_event_79 (zz : Nat × Nat) (r : mx_T) (ls : mx_L) (st : List Value) (h : mx_H) (c n : Nat) : mx_G r (t_Hs_event zz) 79 ls st h c n = (o_aload 2 6) r (mx_G r (t_Hs_event zz)) 79 ls st h c n := mx_G_eq (tm_Hs_event zz) r 79 ls st h c n
theorem st_Hs_event_81 (zz : Nat × Nat) (r : mx_T) (ls : mx_L) (st : List Value) (h : mx_H) (c n : Nat) : mx_G r (t_Hs_event zz) 81 ls st h c n = (o_call 5 136 1 0 0 (fun _ _ => True) (S_Hs_areAlike zz)) r (mx_G r (t_Hs_event zz)) 81 ls st h c n := mx_G_eq (tm_Hs_event zz) r 81 ls st h c n
theorem st_Hs_event_84 (zz : Nat × Nat) (r : mx_T) (ls : mx_L) (st : List Value) (h : mx_H) (c n : Nat) : mx_G r (t_Hs_event zz) 84 ls st h c n = (o_if 89 (fun x => ¬ x = 0)) r (mx_G r (t_Hs_event zz)) 84 ls st h c n := mx_G_eq (tm_Hs_event zz) r 84 ls st h c n
theorem st_Hs_event_87 (zz : Nat × Nat) (r : mx_T) (ls : mx_L) (st : List Value) (h : mx_H) (c n : Nat) : mx_G r (t_Hs_event zz) 87 ls st h c n = (o_push 1 (.int (-1))) r (mx_G r (t_Hs_event zz)) 87 ls st h c n := mx_G_eq (tm_Hs_event zz) r 87 ls st h c n
theorem st_Hs_event_88 (zz : Nat × Nat) (r : mx_T) (ls : mx_L) (st : List Value) (h : mx_H) (c n : Nat) : mx_G r (t_Hs_event zz) 88 ls st h c n = (o_iret) r (mx_G r (t_Hs_event zz)) 88 ls st h c n := mx_G_eq (tm_Hs_event zz) r 88 ls st h c n
theorem st_Hs_event_89 (zz : Nat × Nat) (r : mx_T) (ls : mx_L) (st : List Value) (h : mx_H) (c n : Nat) : mx_G r (t_Hs_event zz) 89 ls st h c n = (o_aload 2 6) r (mx_G r (t_Hs_event zz)) 89 ls st h c n := mx_G_eq (tm_Hs_event zz) r 89 ls st h c n
theorem st_Hs_event_91 (zz : Nat × Nat) (r : mx_T) (ls : mx_L) (st : List Value) (h : mx_H) (c n : Nat) : mx_G r (t_Hs_event zz) 91 ls st h c n = (o_astore 2 7) r (mx_G r (t_Hs_event zz)) 91 ls st h c n := mx_G_eq (tm_Hs_event zz) r 91 ls st h c n
theorem st_Hs_event_93 (zz : Nat × Nat) (r : mx_T) (ls : mx_L) (st : List Value) (h : mx_H) (c n : Nat) : mx_G r (t_Hs_event zz) 93 ls st h c n = (o_aload 2 7) r (mx_G r (t_Hs_event zz)) 93 ls st h c n := mx_G_eq (tm_Hs_event zz) r 93 ls st h c n
theorem st_Hs_event_95 (zz : Nat × Nat) (r : mx_T) (ls : mx_L) (st : List Value) (h : mx_H) (c n : Nat) : mx_G r (t_Hs_event zz) 95 ls st h c n = (o_alen) r (mx_G r (t_Hs_event zz)) 95 ls st h c n := mx_G_eq (tm_Hs_event zz) r 95 ls st h c n
theorem st_Hs_event_96 (zz : Nat × Nat) (r : mx_T) (ls : mx_L) (st : List Value) (h : mx_H) (c n : Nat) : mx_G r (t_Hs_event zz) 96 ls st h c n = (o_istore 2 8) r (mx_G r (t_Hs_event zz)) 96 ls st h c n := mx_G_eq (tm_Hs_event zz) r 96 ls st h c n
theorem st_Hs_event_98 (zz : Nat × Nat) (r : mx_T) (ls : mx_L) (st : List Value) (h : mx_H) (c n : Nat) : mx_G r (t_Hs_event zz) 98 ls st h c n = (o_push 1 (.int 0)) r (mx_G r (t_Hs_event zz)) 98 ls st h c n := mx_G_eq (tm_Hs_event zz) r 98 ls st h c n
theorem st_Hs_event_99 (zz : Nat × Nat) (r : mx_T) (ls : mx_L) (st : List Value) (h : mx_H) (c n : Nat) : mx_G r (t_Hs_event zz) 99 ls st h c n = (o_istore 2 9) r (mx_G r (t_Hs_event zz)) 99 ls st h c n := mx_G_eq (tm_Hs_event zz) r 99 ls st h c n
theorem st_Hs_event_101 (zz : Nat × Nat) (r : mx_T) (ls : mx_L) (st : List Value) (h : mx_H) (c n : Nat) : mx_G r (t_Hs_event zz) 101 ls st h c n = (o_iload 2 9) r (mx_G r (t_Hs_event zz)) 101 ls st h c n := mx_G_eq (tm_Hs_event zz) r 101 ls st h c n
theorem st_Hs_event_103 (zz : Nat × Nat) (r : mx_T) (ls : mx_L) (st : List Value) (h : mx_H) (c n : Nat) : mx_G r (t_Hs_event zz) 103 ls st h c n = (o_iload 2 8) r (mx_G r (t_Hs_event zz)) 103 ls st h c n := mx_G_eq (tm_Hs_event zz) r 103 ls st h c n
theorem st_Hs_event_105 (zz : Nat × Nat) (r : mx_T) (ls : mx_L) (st : List Value) (h : mx_H) (c n : Nat) : mx_G r (t_Hs_event zz) 105 ls st h c n = (o_icmp 126 (fun x y => y ≤ x)) r (mx_G r (t_Hs_event zz)) 105 ls st h c n := mx_G_eq (tm_Hs_event zz) r 105 ls st h c n
theorem st_Hs_event_108 (zz : Nat × Nat) (r : mx_T) (ls : mx_L) (st : List Value) (h : mx_H) (c n : Nat) : mx_G r (t_Hs_event zz) 108 ls st h c n = (o_aload 2 7) r (mx_G r (t_Hs_event zz)) 108 ls st h c n := mx_G_eq (tm_Hs_event zz) r 108 ls st h c n
theorem st_Hs_event_110 (zz : Nat × Nat) (r : mx_T) (ls : mx_L) (st : List Value) (h : mx_H) (c n : Nat) : mx_G r (t_Hs_event zz) 110 ls st h c n = (o_iload 2 9) r (mx_G r (t_Hs_event zz)) 110 ls st h c n := mx_G_eq (tm_Hs_event zz) r 110 ls st h c n
theorem st_Hs_event_112 (zz : Nat × Nat) (r : mx_T) (ls : mx_L) (st : List Value) (h : mx_H) (c n : Nat) : mx_G r (t_Hs_event zz) 112 ls st h c n = (o_aald) r (mx_G r (t_Hs_event zz)) 112 ls st h c n := mx_G_eq (tm_Hs_event zz) r 112 ls st h c n
theorem st_Hs_event_113 (zz : Nat × Nat) (r : mx_T) (ls : mx_L) (st : List Value) (h : mx_H) (c n : Nat) : mx_G r (t_Hs_event zz) 113 ls st h c n = (o_astore 2 10) r (mx_G r (t_Hs_event zz)) 113 ls st h c n := mx_G_eq (tm_Hs_event zz) r 113 ls st h c n
theorem st_Hs_event_115 (zz : Nat × Nat) (r : mx_T) (ls : mx_L) (st : List Value) (h : mx_H) (c n : Nat) : mx_G r (t_Hs_event zz) 115 ls st h c n = (o_aload 2 10) r (mx_G r (t_Hs_event zz)) 115 ls st h c n := mx_G_eq (tm_Hs_event zz) r 115 ls st h c n
theorem st_Hs_event_117 (zz : Nat × Nat) (r : mx_T) (ls : mx_L) (st : List Value) (h : mx_H) (c n : Nat) : mx_G r (t_Hs_event zz) 117 ls st h c n = (o_call 5 136 1 0 0 (mx_rv 1) (S_Fr_associate zz)) r (mx_G r (t_Hs_event zz)) 117 ls st h c n := mx_G_eq (tm_Hs_event zz) r 117 ls st h c n
theorem st_Hs_event_120 (zz : Nat × Nat) (r : mx_T) (ls : mx_L) (st : List Value) (h : mx_H) (c n : Nat) : mx_G r (t_Hs_event zz) 120 ls st h c n = (o_iinc 9 1) r (mx_G r (t_Hs_event zz)) 120 ls st h c n := mx_G_eq (tm_Hs_event zz) r 120 ls st h c n
theorem st_Hs_event_123 (zz : Nat × Nat) (r : mx_T) (ls : mx_L) (st : List Value) (h : mx_H) (c n : Nat) : mx_G r (t_Hs_event zz) 123 ls st h c n = (o_goto 101) r (mx_G r (t_Hs_event zz)) 123 ls st h c n := mx_G_eq (tm_Hs_event zz) r 123 ls st h c n
theorem st_Hs_event_126 (zz : Nat × Nat) (r : mx_T) (ls : mx_L) (st : List Value) (h : mx_H) (c n : Nat) : mx_G r (t_Hs_event zz) 126 ls st h c n = (o_aload 1 0) r (mx_G r (t_Hs_event zz)) 126 ls st h c n := mx_G_eq (tm_Hs_event zz) r 126 ls st h c n
theorem st_Hs_event_127 (zz : Nat × Nat) (r : mx_T) (ls : mx_L) (st : List Value) (h : mx_H) (c n : Nat) : mx_G r (t_Hs_event zz) 127 ls st h c n = (o_get 0 3) r (mx_G r (t_Hs_event zz)) 127 ls st h c n := mx_G_eq (tm_Hs_event zz) r 127 ls st h c n
theorem st_Hs_event_130 (zz : Nat × Nat) (r : mx_T) (ls : mx_L) (st : List Value) (h : mx_H) (c n : Nat) : mx_G r (t_Hs_event zz) 130 ls st h c n = (o_new 5 136 4 3 [.int 0, .null, .int 0]) r (mx_G r (t_Hs_event zz)) 130 ls st h c n := mx_G_eq (tm_Hs_event zz) r 130 ls st h c n
theorem st_Hs_event_133 (zz : Nat × Nat) (r : mx_T) (ls : mx_L) (st : List Value) (h : mx_H) (c n : Nat) : mx_G r (t_Hs_event zz) 133 ls st h c n = (o_dup) r (mx_G r (t_Hs_event zz)) 133 ls st h c n := mx_G_eq (tm_Hs_event zz) r 133 ls st h c n
theorem st_Hs_event_134 (zz : Nat × Nat) (r : mx_T) (ls : mx_L) (st : List Value) (h : mx_H) (c n : Nat) : mx_G r (t_Hs_event zz) 134 ls st h c n = (o_iload 1 1) r (mx_G r (t_Hs_event zz)) 134 ls st h c n := mx_G_eq (tm_Hs_event zz) r 134 ls st h c n
theorem st_Hs_event_135 (zz : Nat × Nat) (r : mx_T) (ls : mx_L) (st : List Value) (h : mx_H) (c n : Nat) : mx_G r (t_Hs_event zz) 135 ls st h c n = (o_call 5 136 1 0 0 (fun _ _ => True) (S_Hs_protect zz)) r (mx_G r (t_Hs_event zz)) 135 ls st h c n := mx_G_eq (tm_Hs_event zz) r 135 ls st h c n
theorem st_Hs_event_138 (zz : Nat × Nat) (r : mx_T) (ls : mx_L) (st : List Value) (h : mx_H) (c n : Nat) : mx_G r (t_Hs_event zz) 138 ls st h c n = (o_aload 2 6) r (mx_G r (t_Hs_event zz)) 138 ls st h c n := mx_G_eq (tm_Hs_event zz) r 138 ls st h c n
theorem st_Hs_event_140 (zz : Nat × Nat) (r : mx_T) (ls : mx_L) (st : List Value) (h : mx_H) (c n : Nat) : mx_G r (t_Hs_event zz) 140 ls st h c n = (o_iload 2 5) r (mx_G r (t_Hs_event zz)) 140 ls st h c n := mx_G_eq (tm_Hs_event zz) r 140 ls st h c n
theorem st_Hs_event_142 (zz : Nat × Nat) (r : mx_T) (ls : mx_L) (st : List Value) (h : mx_H) (c n : Nat) : mx_G r (t_Hs_event zz) 142 ls st h c n = (o_call 5 136 4 0 0 mx_rr (S_Ev_init zz)) r (mx_G r (t_Hs_event zz)) 142 ls st h c n := mx_G_eq (tm_Hs_event zz) r 142 ls st h c n
theorem st_Hs_event_145 (zz : Nat × Nat) (r : mx_T) (ls : mx_L) (st : List Value) (h : mx_H) (c n : Nat) : mx_G r (t_Hs_event zz) 145 ls st h c n = (o_call 5 136 2 2 128 (mx_rv 9) (S_Al_add zz)) r (mx_G r (t_Hs_event zz)) 145 ls st h c n := mx_G_eq (tm_Hs_event zz) r 145 ls st h c n
theorem st_Hs_event_148 (zz : Nat × Nat) (r : mx_T) (ls : mx_L) (st : List Value) (h : mx_H) (c n : Nat) : mx_G r (t_Hs_event zz) 148 ls st h c n = (o_pop) r (mx_G r (t_Hs_event zz)) 148 ls st h c n := mx_G_eq (tm_Hs_event zz) r 148 ls st h c n
theorem st_Hs_event_149 (zz : Nat × Nat) (r : mx_T) (ls : mx_L) (st : List Value) (h : mx_H) (c n : Nat) : mx_G r (t_Hs_event zz) 149 ls st h c n = (o_aload 1 0) r (mx_G r (t_Hs_event zz)) 149 ls st h c n := mx_G_eq (tm_Hs_event zz) r 149 ls st h c n
theorem st_Hs_event_150 (zz : Nat × Nat) (r : mx_T) (ls : mx_L) (st : List Value) (h : mx_H) (c n : Nat) : mx_G r (t_Hs_event zz) 150 ls st h c n = (o_get 0 4) r (mx_G r (t_Hs_event zz)) 150 ls st h c n := mx_G_eq (tm_Hs_event zz) r 150 ls st h c n
theorem st_Hs_event_153 (zz : Nat × Nat) (r : mx_T) (ls : mx_L) (st : List Value) (h : mx_H) (c n : Nat) : mx_G r (t_Hs_event zz) 153 ls st h c n = (o_iload 1 1) r (mx_G r (t_Hs_event zz)) 153 ls st h c n := mx_G_eq (tm_Hs_event zz) r 153 ls st h c n
theorem st_Hs_event_154 (zz : Nat × Nat) (r : mx_T) (ls : mx_L) (st : List Value) (h : mx_H) (c n : Nat) : mx_G r (t_Hs_event zz) 154 ls st h c n = (o_push 1 (.int 1)) r (mx_G r (t_Hs_event zz)) 154 ls st h c n := mx_G_eq (tm_Hs_event zz) r 154 ls st h c n
theorem st_Hs_event_155 (zz : Nat × Nat) (r : mx_T) (ls : mx_L) (st : List Value) (h : mx_H) (c n : Nat) : mx_G r (t_Hs_event zz) 155 ls st h c n = (o_iast .boolean (vp_nar .boolean)) r (mx_G r (t_Hs_event zz)) 155 ls st h c n := mx_G_eq (tm_Hs_event zz) r 155 ls st h c n
theorem st_Hs_event_156 (zz : Nat × Nat) (r : mx_T) (ls : mx_L) (st : List Value) (h : mx_H) (c n : Nat) : mx_G r (t_Hs_event zz) 156 ls st h c n = (o_aload 1 0) r (mx_G r (t_Hs_event zz)) 156 ls st h c n := mx_G_eq (tm_Hs_event zz) r 156 ls st h c n
theorem st_Hs_event_157 (zz : Nat × Nat) (r : mx_T) (ls : mx_L) (st : List Value) (h : mx_H) (c n : Nat) : mx_G r (t_Hs_event zz) 157 ls st h c n = (o_get 0 3) r (mx_G r (t_Hs_event zz)) 157 ls st h c n := mx_G_eq (tm_Hs_event zz) r 157 ls st h c n
theorem st_Hs_event_160 (zz : Nat × Nat) (r : mx_T) (ls : mx_L) (st : List Value) (h : mx_H) (c n : Nat) : mx_G r (t_Hs_event zz) 160 ls st h c n = (o_call 5 136 1 0 0 (mx_rv 9) (S_Al_size zz)) r (mx_G r (t_Hs_event zz)) 160 ls st h c n := mx_G_eq (tm_Hs_event zz) r 160 ls st h c n
theorem st_Hs_event_163 (zz : Nat × Nat) (r : mx_T) (ls : mx_L) (st : List Value) (h : mx_H) (c n : Nat) : mx_G r (t_Hs_event zz) 163 ls st h c n = (o_push 1 (.int 1)) r (mx_G r (t_Hs_event zz)) 163 ls st h c n := mx_G_eq (tm_Hs_event zz) r 163 ls st h c n
theorem st_Hs_event_164 (zz : Nat × Nat) (r : mx_T) (ls : mx_L) (st : List Value) (h : mx_H) (c n : Nat) : mx_G r (t_Hs_event zz) 164 ls st h c n = (o_ii (fun x y => x - y)) r (mx_G r (t_Hs_event zz)) 164 ls st h c n := mx_G_eq (tm_Hs_event zz) r 164 ls st h c n
theorem st_Hs_event_165 (zz : Nat × Nat) (r : mx_T) (ls : mx_L) (st : List Value) (h : mx_H) (c n : Nat) : mx_G r (t_Hs_event zz) 165 ls st h c n = (o_iret) r (mx_G r (t_Hs_event zz)) 165 ls st h c n := mx_G_eq (tm_Hs_event zz) r 165 ls st h c n
theorem d_Sc_sizeOf_0 : decode c_Sc_sizeOf 0 = .ok (.aload_n 0, 1) := by decide +kernel
theorem d_Sc_sizeOf_1 : decode c_Sc_sizeOf 1 = .ok (.getfield 12, 3) := by decide +kernel
theorem d_Sc_sizeOf_4 : decode c_Sc_sizeOf 4 = .ok (.iload_n 1, 1) := by decide +kernel
theorem d_Sc_sizeOf_5 : decode c_Sc_sizeOf 5 = .ok (.aaload, 1) := by decide +kernel
theorem d_Sc_sizeOf_6 : decode c_Sc_sizeOf 6 = .ok (.getfield 41, 3) := by decide +kernel
theorem d_Sc_sizeOf_9 : decode c_Sc_sizeOf 9 = .ok (.invokevirtual 45, 3) := by decide +kernel
theorem d_Sc_sizeOf_12 : decode c_Sc_sizeOf 12 = .ok (.ireturn, 1) := by decide +kernel
def t_Sc_sizeOf (zz : Nat × Nat) : List (Nat × mx_O) := [(0, o_aload 1 0),
  (1, o_get 7 0),
  (4, o_iload 1 1),
  (5, o_aald),
  (6, o_get 6 0),
  (9, o_call 0 0 1 0 0 (mx_rv 9) (S_Al_size zz)),
  (12, o_iret)]
set_option maxRecDepth 100000 in
theorem tm_Sc_sizeOf (zz : Nat × Nat) : mx_All (fun _ o => mx_Mono o) (t_Sc_sizeOf zz) := by
  refine mx_all_cons (mo_st) ?_
  refine mx_all_cons (mo_st) ?_
  refine mx_all_cons (mo_st) ?_
  refine mx_all_cons (mo_sc) ?_
  refine mx_all_cons (mo_st) ?_
  refine mx_all_cons (mo_call (sm_Al_size zz)) ?_
  refine mx_all_cons (mo_ret) ?_
  exact mx_all_nil
def S_Sc_sizeOf (zz : Nat × Nat) : mx_Sp := mx_S 2 0 0 (t_Sc_sizeOf zz)
theorem sm_Sc_sizeOf (zz : Nat × Nat) : mx_SMono (S_Sc_sizeOf zz) := mx_S_mono (tm_Sc_sizeOf zz)
abbrev rm_Sc_sizeOf : Room := { frames := 1, cells := 0, slots := 0, locals := 20 }
set_option maxHeartbeats 4000000 in
set_option maxRecDepth 100000 in
theorem m_Sc_sizeOf (l : Launch) (zz : Nat × Nat) : mx_Met l y_Sc_sizeOf (wsOf y_Sc_sizeOf c_Sc_sizeOf 2 (some .int)) rm_Sc_sizeOf wcl (mx_Z zz) 0 0 (S_Sc_sizeOf zz) := by
  refine mx_met (cc := c_Sc_sizeOf) (ret := (some .int)) (by decide) rfl ?_
  intro p e s m args below meth c D A Post X hz hr hlk hnm
  have hm : ∀ w ∈ mw, w.before args s = true := fun w h => X.1.2.2.2.2 w (List.mem_cons_of_mem _ h)
  refine mx_all_cons (ok_aload (fun hl kk => lv_aload_n X.1.1 X.1.2.1 d_Sc_sizeOf_0 rfl hl kk) (fun hl kk => lv_aload_nN X.1.1 X.1.2.1 d_Sc_sizeOf_0 rfl hl kk)) ?_
  refine mx_all_cons (ok_get (C := "HeaderSchedule$Schedule") (T := T_Sc) (N := 8) X (mw_up in_Sc) rfl 0 (by decide) (hm _ w108) (fun _ h9 => h9) d_Sc_sizeOf_1) ?_
  refine mx_all_cons (ok_iload (fun hl kk => lv_iload_n X.1.1 X.1.2.1 d_Sc_sizeOf_4 rfl hl kk)) ?_
  refine mx_all_cons (ok_aald X d_Sc_sizeOf_5) ?_
  refine mx_all_cons (ok_get (C := "HeaderSchedule$Table") (T := T_Tb) (N := 1) X (mw_up in_Tb) rfl 0 (by decide) (hm _ w102) (fun _ h9 => h9) d_Sc_sizeOf_6) ?_
  refine mx_all_cons (ok_callV (C := "java/util/ArrayList") (T := T_Al) (N := 3) X (mx_Zok_Z zz) hz ⟨(Nat.le_of_ble_eq_true rfl), (Nat.le_of_ble_eq_true rfl)⟩ (m_Al_size l zz) ⟨mx_cwB 0 hm w199 w455 w36 rfl rfl (by decide +kernel) ⟨(Nat.le_of_ble_eq_true rfl), (Nat.le_of_ble_eq_true rfl)⟩, (hm _ w197), hm _ w198⟩ rfl d_Sc_sizeOf_9) ?_
  refine mx_all_cons (ok_iret X hr hlk d_Sc_sizeOf_12) ?_
  exact mx_all_nil
theorem st_Sc_sizeOf_0 (zz : Nat × Nat) (r : mx_T) (ls : mx_L) (st : List Value) (h : mx_H) (c n : Nat) : mx_G r (t_Sc_sizeOf zz) 0 ls st h c n = (o_aload 1 0) r (mx_G r (t_Sc_sizeOf zz)) 0 ls st h c n := mx_G_eq (tm_Sc_sizeOf zz) r 0 ls st h c n
theorem st_Sc_sizeOf_1 (zz : Nat × Nat) (r : mx_T) (ls : mx_L) (st : List Value) (h : mx_H) (c n : Nat) : mx_G r (t_Sc_sizeOf zz) 1 ls st h c n = (o_get 7 0) r (mx_G r (t_Sc_sizeOf zz)) 1 ls st h c n := mx_G_eq (tm_Sc_sizeOf zz) r 1 ls st h c n
theorem st_Sc_sizeOf_4 (zz : Nat × Nat) (r : mx_T) (ls : mx_L) (st : List Value) (h : mx_H) (c n : Nat) : mx_G r (t_Sc_sizeOf zz) 4 ls st h c n = (o_iload 1 1) r (mx_G r (t_Sc_sizeOf zz)) 4 ls st h c n := mx_G_eq (tm_Sc_sizeOf zz) r 4 ls st h c n
theorem st_Sc_sizeOf_5 (zz : Nat × Nat) (r : mx_T) (ls : mx_L) (st : List Value) (h : mx_H) (c n : Nat) : mx_G r (t_Sc_sizeOf zz) 5 ls st h c n = (o_aald) r (mx_G r (t_Sc_sizeOf zz)) 5 ls st h c n := mx_G_eq (tm_Sc_sizeOf zz) r 5 ls st h c n
theorem st_Sc_sizeOf_6 (zz : Nat × Nat) (r : mx_T) (ls : mx_L) (st : List Value) (h : mx_H) (c n : Nat) : mx_G r (t_Sc_sizeOf zz) 6 ls st h c n = (o_get 6 0) r (mx_G r (t_Sc_sizeOf zz)) 6 ls st h c n := mx_G_eq (tm_Sc_sizeOf zz) r 6 ls st h c n
theorem st_Sc_sizeOf_9 (zz : Nat × Nat) (r : mx_T) (ls : mx_L) (st : List Value) (h : mx_H) (c n : Nat) : mx_G r (t_Sc_sizeOf zz) 9 ls st h c n = (o_call 0 0 1 0 0 (mx_rv 9) (S_Al_size zz)) r (mx_G r (t_Sc_sizeOf zz)) 9 ls st h c n := mx_G_eq (tm_Sc_sizeOf zz) r 9 ls st h c n
theorem st_Sc_sizeOf_12 (zz : Nat × Nat) (r : mx_T) (ls : mx_L) (st : List Value) (h : mx_H) (c n : Nat) : mx_G r (t_Sc_sizeOf zz) 12 ls st h c n = (o_iret) r (mx_G r (t_Sc_sizeOf zz)) 12 ls st h c n := mx_G_eq (tm_Sc_sizeOf zz) r 12 ls st h c n
theorem d_Hs_howManyOf_0 : decode c_Hs_howManyOf 0 = .ok (.iload_n 1, 1) := by decide +kernel
theorem d_Hs_howManyOf_1 : decode c_Hs_howManyOf 1 = .ok (.tableswitch 51 0 2 #[27, 35, 43], 27) := by decide +kernel
theorem d_Hs_howManyOf_28 : decode c_Hs_howManyOf 28 = .ok (.aload_n 0, 1) := by decide +kernel
theorem d_Hs_howManyOf_29 : decode c_Hs_howManyOf 29 = .ok (.getfield 10, 3) := by decide +kernel
theorem d_Hs_howManyOf_32 : decode c_Hs_howManyOf 32 = .ok (.invokevirtual 58, 3) := by decide +kernel
theorem d_Hs_howManyOf_35 : decode c_Hs_howManyOf 35 = .ok (.ireturn, 1) := by decide +kernel
theorem d_Hs_howManyOf_36 : decode c_Hs_howManyOf 36 = .ok (.aload_n 0, 1) := by decide +kernel
theorem d_Hs_howManyOf_37 : decode c_Hs_howManyOf 37 = .ok (.getfield 19, 3) := by decide +kernel
theorem d_Hs_howManyOf_40 : decode c_Hs_howManyOf 40 = .ok (.invokevirtual 58, 3) := by decide +kernel
theorem d_Hs_howManyOf_43 : decode c_Hs_howManyOf 43 = .ok (.ireturn, 1) := by decide +kernel
theorem d_Hs_howManyOf_44 : decode c_Hs_howManyOf 44 = .ok (.aload_n 0, 1) := by decide +kernel
theorem d_Hs_howManyOf_45 : decode c_Hs_howManyOf 45 = .ok (.getfield 22, 3) := by decide +kernel
theorem d_Hs_howManyOf_48 : decode c_Hs_howManyOf 48 = .ok (.invokevirtual 58, 3) := by decide +kernel
theorem d_Hs_howManyOf_51 : decode c_Hs_howManyOf 51 = .ok (.ireturn, 1) := by decide +kernel
theorem d_Hs_howManyOf_52 : decode c_Hs_howManyOf 52 = .ok (.iconst 0, 1) := by decide +kernel
theorem d_Hs_howManyOf_53 : decode c_Hs_howManyOf 53 = .ok (.ireturn, 1) := by decide +kernel
def t_Hs_howManyOf (zz : Nat × Nat) : List (Nat × mx_O) := [(0, o_iload 1 1),
  (1, o_sw [(0, 28), (1, 36), (2, 44)] 52),
  (28, o_aload 1 0),
  (29, o_get 0 0),
  (32, o_call 0 0 1 0 0 (mx_rv 9) (S_Al_size zz)),
  (35, o_iret),
  (36, o_aload 1 0),
  (37, o_get 0 2),
  (40, o_call 0 0 1 0 0 (mx_rv 9) (S_Al_size zz)),
  (43, o_iret),
  (44, o_aload 1 0),
  (45, o_get 0 3),
  (48, o_call 0 0 1 0 0 (mx_rv 9) (S_Al_size zz)),
  (51, o_iret),
  (52, o_push 1 (.int 0)),
  (53, o_iret)]
set_option maxRecDepth 100000 in
theorem tm_Hs_howManyOf (zz : Nat × Nat) : mx_All (fun _ o => mx_Mono o) (t_Hs_howManyOf zz) := by
  refine mx_all_cons (mo_st) ?_
  refine mx_all_cons (mo_sw) ?_
  refine mx_all_cons (mo_st) ?_
  refine mx_all_cons (mo_st) ?_
  refine mx_all_cons (mo_call (sm_Al_size zz)) ?_
  refine mx_all_cons (mo_ret) ?_
  refine mx_all_cons (mo_st) ?_
  refine mx_all_cons (mo_st) ?_
  refine mx_all_cons (mo_call (sm_Al_size zz)) ?_
  refine mx_all_cons (mo_ret) ?_
  refine mx_all_cons (mo_st) ?_
  refine mx_all_cons (mo_st) ?_
  refine mx_all_cons (mo_call (sm_Al_size zz)) ?_
  refine mx_all_cons (mo_ret) ?_
  refine mx_all_cons (mo_st) ?_
  refine mx_all_cons (mo_ret) ?_
  exact mx_all_nil
def S_Hs_howManyOf (zz : Nat × Nat) : mx_Sp := mx_S 2 0 0 (t_Hs_howManyOf zz)
theorem sm_Hs_howManyOf (zz : Nat × Nat) : mx_SMono (S_Hs_howManyOf zz) := mx_S_mono (tm_Hs_howManyOf zz)
abbrev rm_Hs_howManyOf : Room := { frames := 1, cells := 0, slots := 0, locals := 20 }
set_option maxHeartbeats 4000000 in
set_option maxRecDepth 100000 in
theorem m_Hs_howManyOf (l : Launch) (zz : Nat × Nat) : mx_Met l y_Hs_howManyOf (wsOf y_Hs_howManyOf c_Hs_howManyOf 2 (some .int)) rm_Hs_howManyOf wcl (mx_Z zz) 0 0 (S_Hs_howManyOf zz) := by
  refine mx_met (cc := c_Hs_howManyOf) (ret := (some .int)) (by decide) rfl ?_
  intro p e s m args below meth c D A Post X hz hr hlk hnm
  have hm : ∀ w ∈ mw, w.before args s = true := fun w h => X.1.2.2.2.2 w (List.mem_cons_of_mem _ h)
  refine mx_all_cons (ok_iload (fun hl kk => lv_iload_n X.1.1 X.1.2.1 d_Hs_howManyOf_0 rfl hl kk)) ?_
  refine mx_all_cons (ok_table (N := 2) X d_Hs_howManyOf_1 (by decide) (by decide) (by decide) (by decide)) ?_
  refine mx_all_cons (ok_aload (fun hl kk => lv_aload_n X.1.1 X.1.2.1 d_Hs_howManyOf_28 rfl hl kk) (fun hl kk => lv_aload_nN X.1.1 X.1.2.1 d_Hs_howManyOf_28 rfl hl kk)) ?_
  refine mx_all_cons (ok_get (C := "HeaderSchedule") (T := T_Hs) (N := 11) X (mw_up in_Hs) rfl 0 (by decide) (hm _ w158) (fun _ h9 => h9) d_Hs_howManyOf_29) ?_
  refine mx_all_cons (ok_callV (C := "java/util/ArrayList") (T := T_Al) (N := 3) X (mx_Zok_Z zz) hz ⟨(Nat.le_of_ble_eq_true rfl), (Nat.le_of_ble_eq_true rfl)⟩ (m_Al_size l zz) ⟨mx_cwB 0 hm w199 w196 w36 rfl rfl (by decide +kernel) ⟨(Nat.le_of_ble_eq_true rfl), (Nat.le_of_ble_eq_true rfl)⟩, (hm _ w197), hm _ w198⟩ rfl d_Hs_howManyOf_32) ?_
  refine mx_all_cons (ok_iret X hr hlk d_Hs_howManyOf_35) ?_
  refine mx_all_cons (ok_aload (fun hl kk => lv_aload_n X.1.1 X.1.2.1 d_Hs_howManyOf_36 rfl hl kk) (fun hl kk => lv_aload_nN X.1.1 X.1.2.1 d_Hs_howManyOf_36 rfl hl kk)) ?_
  refine mx_all_cons (ok_get (C := "HeaderSchedule") (T := T_Hs) (N := 11) X (mw_up in_Hs) rfl 2 (by decide) (hm _ w160) (fun _ h9 => h9) d_Hs_howManyOf_37) ?_
  refine mx_all_cons (ok_callV (C := "java/util/ArrayList") (T := T_Al) (N := 3) X (mx_Zok_Z zz) hz ⟨(Nat.le_of_ble_eq_true rfl), (Nat.le_of_ble_eq_true rfl)⟩ (m_Al_size l zz) ⟨mx_cwB 0 hm w199 w196 w36 rfl rfl (by decide +kernel) ⟨(Nat.le_of_ble_eq_true rfl), (Nat.le_of_ble_eq_true rfl)⟩, (hm _ w197), hm _ w198⟩ rfl d_Hs_howManyOf_40) ?_
  refine mx_all_cons (ok_iret X hr hlk d_Hs_howManyOf_43) ?_
  refine mx_all_cons (ok_aload (fun hl kk => lv_aload_n X.1.1 X.1.2.1 d_Hs_howManyOf_44 rfl hl kk) (fun hl kk => lv_aload_nN X.1.1 X.1.2.1 d_Hs_howManyOf_44 rfl hl kk)) ?_
  refine mx_all_cons (ok_get (C := "HeaderSchedule") (T := T_Hs) (N := 11) X (mw_up in_Hs) rfl 3 (by decide) (hm _ w161) (fun _ h9 => h9) d_Hs_howManyOf_45) ?_
  refine mx_all_cons (ok_callV (C := "java/util/ArrayList") (T := T_Al) (N := 3) X (mx_Zok_Z zz) hz ⟨(Nat.le_of_ble_eq_true rfl), (Nat.le_of_ble_eq_true rfl)⟩ (m_Al_size l zz) ⟨mx_cwB 0 hm w199 w196 w36 rfl rfl (by decide +kernel) ⟨(Nat.le_of_ble_eq_true rfl), (Nat.le_of_ble_eq_true rfl)⟩, (hm _ w197), hm _ w198⟩ rfl d_Hs_howManyOf_48) ?_
  refine mx_all_cons (ok_iret X hr hlk d_Hs_howManyOf_51) ?_
  refine mx_all_cons (ok_push (fun kk => lv_iconst X.1.1 X.1.2.1 d_Hs_howManyOf_52 (by decide) kk)) ?_
  refine mx_all_cons (ok_iret X hr hlk d_Hs_howManyOf_53) ?_
  exact mx_all_nil
theorem st_Hs_howManyOf_0 (zz : Nat × Nat) (r : mx_T) (ls : mx_L) (st : List Value) (h : mx_H) (c n : Nat) : mx_G r (t_Hs_howManyOf zz) 0 ls st h c n = (o_iload 1 1) r (mx_G r (t_Hs_howManyOf zz)) 0 ls st h c n := mx_G_eq (tm_Hs_howManyOf zz) r 0 ls st h c n
theorem st_Hs_howManyOf_1 (zz : Nat × Nat) (r : mx_T) (ls : mx_L) (st : List Value) (h : mx_H) (c n : Nat) : mx_G r (t_Hs_howManyOf zz) 1 ls st h c n = (o_sw [(0, 28), (1, 36), (2, 44)] 52) r (mx_G r (t_Hs_howManyOf zz)) 1 ls st h c n := mx_G_eq (tm_Hs_howManyOf zz) r 1 ls st h c n
theorem st_Hs_howManyOf_28 (zz : Nat × Nat) (r : mx_T) (ls : mx_L) (st : List Value) (h : mx_H) (c n : Nat) : mx_G r (t_Hs_howManyOf zz) 28 ls st h c n = (o_aload 1 0) r (mx_G r (t_Hs_howManyOf zz)) 28 ls st h c n := mx_G_eq (tm_Hs_howManyOf zz) r 28 ls st h c n
theorem st_Hs_howManyOf_29 (zz : Nat × Nat) (r : mx_T) (ls : mx_L) (st : List Value) (h : mx_H) (c n : Nat) : mx_G r (t_Hs_howManyOf zz) 29 ls st h c n = (o_get 0 0) r (mx_G r (t_Hs_howManyOf zz)) 29 ls st h c n := mx_G_eq (tm_Hs_howManyOf zz) r 29 ls st h c n
theorem st_Hs_howManyOf_32 (zz : Nat × Nat) (r : mx_T) (ls : mx_L) (st : List Value) (h : mx_H) (c n : Nat) : mx_G r (t_Hs_howManyOf zz) 32 ls st h c n = (o_call 0 0 1 0 0 (mx_rv 9) (S_Al_size zz)) r (mx_G r (t_Hs_howManyOf zz)) 32 ls st h c n := mx_G_eq (tm_Hs_howManyOf zz) r 32 ls st h c n
theorem st_Hs_howManyOf_35 (zz : Nat × Nat) (r : mx_T) (ls : mx_L) (st : List Value) (h : mx_H) (c n : Nat) : mx_G r (t_Hs_howManyOf zz) 35 ls st h c n = (o_iret) r (mx_G r (t_Hs_howManyOf zz)) 35 ls st h c n := mx_G_eq (tm_Hs_howManyOf zz) r 35 ls st h c n
theorem st_Hs_howManyOf_36 (zz : Nat × Nat) (r : mx_T) (ls : mx_L) (st : List Value) (h : mx_H) (c n : Nat) : mx_G r (t_Hs_howManyOf zz) 36 ls st h c n = (o_aload 1 0) r (mx_G r (t_Hs_howManyOf zz)) 36 ls st h c n := mx_G_eq (tm_Hs_howManyOf zz) r 36 ls st h c n
theorem st_Hs_howManyOf_37 (zz : Nat × Nat) (r : mx_T) (ls : mx_L) (st : List Value) (h : mx_H) (c n : Nat) : mx_G r (t_Hs_howManyOf zz) 37 ls st h c n = (o_get 0 2) r (mx_G r (t_Hs_howManyOf zz)) 37 ls st h c n := mx_G_eq (tm_Hs_howManyOf zz) r 37 ls st h c n
theorem st_Hs_howManyOf_40 (zz : Nat × Nat) (r : mx_T) (ls : mx_L) (st : List Value) (h : mx_H) (c n : Nat) : mx_G r (t_Hs_howManyOf zz) 40 ls st h c n = (o_call 0 0 1 0 0 (mx_rv 9) (S_Al_size zz)) r (mx_G r (t_Hs_howManyOf zz)) 40 ls st h c n := mx_G_eq (tm_Hs_howManyOf zz) r 40 ls st h c n
theorem st_Hs_howManyOf_43 (zz : Nat × Nat) (r : mx_T) (ls : mx_L) (st : List Value) (h : mx_H) (c n : Nat) : mx_G r (t_Hs_howManyOf zz) 43 ls st h c n = (o_iret) r (mx_G r (t_Hs_howManyOf zz)) 43 ls st h c n := mx_G_eq (tm_Hs_howManyOf zz) r 43 ls st h c n
theorem st_Hs_howManyOf_44 (zz : Nat × Nat) (r : mx_T) (ls : mx_L) (st : List Value) (h : mx_H) (c n : Nat) : mx_G r (t_Hs_howManyOf zz) 44 ls st h c n = (o_aload 1 0) r (mx_G r (t_Hs_howManyOf zz)) 44 ls st h c n := mx_G_eq (tm_Hs_howManyOf zz) r 44 ls st h c n
theorem st_Hs_howManyOf_45 (zz : Nat × Nat) (r : mx_T) (ls : mx_L) (st : List Value) (h : mx_H) (c n : Nat) : mx_G r (t_Hs_howManyOf zz) 45 ls st h c n = (o_get 0 3) r (mx_G r (t_Hs_howManyOf zz)) 45 ls st h c n := mx_G_eq (tm_Hs_howManyOf zz) r 45 ls st h c n
theorem st_Hs_howManyOf_48 (zz : Nat × Nat) (r : mx_T) (ls : mx_L) (st : List Value) (h : mx_H) (c n : Nat) : mx_G r (t_Hs_howManyOf zz) 48 ls st h c n = (o_call 0 0 1 0 0 (mx_rv 9) (S_Al_size zz)) r (mx_G r (t_Hs_howManyOf zz)) 48 ls st h c n := mx_G_eq (tm_Hs_howManyOf zz) r 48 ls st h c n
theorem st_Hs_howManyOf_51 (zz : Nat × Nat) (r : mx_T) (ls : mx_L) (st : List Value) (h : mx_H) (c n : Nat) : mx_G r (t_Hs_howManyOf zz) 51 ls st h c n = (o_iret) r (mx_G r (t_Hs_howManyOf zz)) 51 ls st h c n := mx_G_eq (tm_Hs_howManyOf zz) r 51 ls st h c n
theorem st_Hs_howManyOf_52 (zz : Nat × Nat) (r : mx_T) (ls : mx_L) (st : List Value) (h : mx_H) (c n : Nat) : mx_G r (t_Hs_howManyOf zz) 52 ls st h c n = (o_push 1 (.int 0)) r (mx_G r (t_Hs_howManyOf zz)) 52 ls st h c n := mx_G_eq (tm_Hs_howManyOf zz) r 52 ls st h c n
theorem st_Hs_howManyOf_53 (zz : Nat × Nat) (r : mx_T) (ls : mx_L) (st : List Value) (h : mx_H) (c n : Nat) : mx_G r (t_Hs_howManyOf zz) 53 ls st h c n = (o_iret) r (mx_G r (t_Hs_howManyOf zz)) 53 ls st h c n := mx_G_eq (tm_Hs_howManyOf zz) r 53 ls st h c n
theorem d_En_init_0 : decode c_En_init 0 = .ok (.aload_n 0, 1) := by decide +kernel
theorem d_En_init_1 : decode c_En_init 1 = .ok (.invokespecial 1, 3) := by decide +kernel
theorem d_En_init_4 : decode c_En_init 4 = .ok (.aload_n 0, 1) := by decide +kernel
theorem d_En_init_5 : decode c_En_init 5 = .ok (.iload_n 1, 1) := by decide +kernel
theorem d_En_init_6 : decode c_En_init 6 = .ok (.putfield 7, 3) := by decide +kernel
theorem d_En_init_9 : decode c_En_init 9 = .ok (.aload_n 0, 1) := by decide +kernel
theorem d_En_init_10 : decode c_En_init 10 = .ok (.iload_n 2, 1) := by decide +kernel
theorem d_En_init_11 : decode c_En_init 11 = .ok (.putfield 13, 3) := by decide +kernel
theorem d_En_init_14 : decode c_En_init 14 = .ok (.aload_n 0, 1) := by decide +kernel
theorem d_En_init_15 : decode c_En_init 15 = .ok (.iload_n 3, 1) := by decide +kernel
theorem d_En_init_16 : decode c_En_init 16 = .ok (.putfield 16, 3) := by decide +kernel
theorem d_En_init_19 : decode c_En_init 19 = .ok (.return_, 1) := by decide +kernel
def t_En_init (zz : Nat × Nat) : List (Nat × mx_O) := [(0, o_aload 1 0),
  (1, o_objinit),
  (4, o_aload 1 0),
  (5, o_iload 1 1),
  (6, o_put 5 0 mx_vI),
  (9, o_aload 1 0),
  (10, o_iload 1 2),
  (11, o_put 5 1 mx_vI),
  (14, o_aload 1 0),
  (15, o_iload 1 3),
  (16, o_put 5 2 mx_vI),
  (19, o_vret)]
set_option maxRecDepth 100000 in
theorem tm_En_init (zz : Nat × Nat) : mx_All (fun _ o => mx_Mono o) (t_En_init zz) := by
  refine mx_all_cons (mo_st) ?_
  refine mx_all_cons (mo_sc) ?_
  refine mx_all_cons (mo_st) ?_
  refine mx_all_cons (mo_st) ?_
  refine mx_all_cons (mo_sc) ?_
  refine mx_all_cons (mo_st) ?_
  refine mx_all_cons (mo_st) ?_
  refine mx_all_cons (mo_sc) ?_
  refine mx_all_cons (mo_st) ?_
  refine mx_all_cons (mo_st) ?_
  refine mx_all_cons (mo_sc) ?_
  refine mx_all_cons (mo_ret) ?_
  exact mx_all_nil
def S_En_init (zz : Nat × Nat) : mx_Sp := mx_S 4 0 0 (t_En_init zz)
theorem sm_En_init (zz : Nat × Nat) : mx_SMono (S_En_init zz) := mx_S_mono (tm_En_init zz)
abbrev rm_En_init : Room := { frames := 1, cells := 0, slots := 0, locals := 20 }
set_option maxHeartbeats 4000000 in
set_option maxRecDepth 100000 in
theorem m_En_init (l : Launch) (zz : Nat × Nat) : mx_Met l y_En_init (wsOf y_En_init c_En_init 4 none) rm_En_init wcl (mx_Z zz) 0 0 (S_En_init zz) := by
  refine mx_met (cc := c_En_init) (ret := none) (by decide) rfl ?_
  intro p e s m args below meth c D A Post X hz hr hlk hnm
  have hm : ∀ w ∈ mw, w.before args s = true := fun w h => X.1.2.2.2.2 w (List.mem_cons_of_mem _ h)
  refine mx_all_cons (ok_aload (fun hl kk => lv_aload_n X.1.1 X.1.2.1 d_En_init_0 rfl hl kk) (fun hl kk => lv_aload_nN X.1.1 X.1.2.1 d_En_init_0 rfl hl kk)) ?_
  refine mx_all_cons (ok_objinit X ⟨(Nat.le_of_ble_eq_true rfl), (Nat.le_of_ble_eq_true rfl)⟩ (hm _ w465) (hm _ w58) (hm _ w_oic) d_En_init_1) ?_
  refine mx_all_cons (ok_aload (fun hl kk => lv_aload_n X.1.1 X.1.2.1 d_En_init_4 rfl hl kk) (fun hl kk => lv_aload_nN X.1.1 X.1.2.1 d_En_init_4 rfl hl kk)) ?_
  refine mx_all_cons (ok_iload (fun hl kk => lv_iload_n X.1.1 X.1.2.1 d_En_init_5 rfl hl kk)) ?_
  refine mx_all_cons (ok_putF (C := "HeaderSchedule$Entry") (T := T_En) (N := 3) X (mw_up in_En) ty_En tyok_En nm_En rfl 0 (by decide) (hm _ w466) (fun _ h9 => h9) rfl hnm rfl (tyok_En 0 (by decide)) mx_vI_ok d_En_init_6) ?_
  refine mx_all_cons (ok_aload (fun hl kk => lv_aload_n X.1.1 X.1.2.1 d_En_init_9 rfl hl kk) (fun hl kk => lv_aload_nN X.1.1 X.1.2.1 d_En_init_9 rfl hl kk)) ?_
  refine mx_all_cons (ok_iload (fun hl kk => lv_iload_n X.1.1 X.1.2.1 d_En_init_10 rfl hl kk)) ?_
  refine mx_all_cons (ok_putF (C := "HeaderSchedule$Entry") (T := T_En) (N := 3) X (mw_up in_En) ty_En tyok_En nm_En rfl 1 (by decide) (hm _ w469) (fun _ h9 => h9) rfl hnm rfl (tyok_En 1 (by decide)) mx_vI_ok d_En_init_11) ?_
  refine mx_all_cons (ok_aload (fun hl kk => lv_aload_n X.1.1 X.1.2.1 d_En_init_14 rfl hl kk) (fun hl kk => lv_aload_nN X.1.1 X.1.2.1 d_En_init_14 rfl hl kk)) ?_
  refine mx_all_cons (ok_iload (fun hl kk => lv_iload_n X.1.1 X.1.2.1 d_En_init_15 rfl hl kk)) ?_
  refine mx_all_cons (ok_putF (C := "HeaderSchedule$Entry") (T := T_En) (N := 3) X (mw_up in_En) ty_En tyok_En nm_En rfl 2 (by decide) (hm _ w472) (fun _ h9 => h9) rfl hnm rfl (tyok_En 2 (by decide)) mx_vI_ok d_En_init_16) ?_
  refine mx_all_cons (ok_vret X hr hlk d_En_init_19) ?_
  exact mx_all_nil
theorem st_En_init_0 (zz : Nat × Nat) (r : mx_T) (ls : mx_L) (st : List Value) (h : mx_H) (c n : Nat) : mx_G r (t_En_init zz) 0 ls st h c n = (o_aload 1 0) r (mx_G r (t_En_init zz)) 0 ls st h c n := mx_G_eq (tm_En_init zz) r 0 ls st h c n
theorem st_En_init_1 (zz : Nat × Nat) (r : mx_T) (ls : mx_L) (st : List Value) (h : mx_H) (c n : Nat) : mx_G r (t_En_init zz) 1 ls st h c n = (o_objinit) r (mx_G r (t_En_init zz)) 1 ls st h c n := mx_G_eq (tm_En_init zz) r 1 ls st h c n
theorem st_En_init_4 (zz : Nat × Nat) (r : mx_T) (ls : mx_L) (st : List Value) (h : mx_H) (c n : Nat) : mx_G r (t_En_init zz) 4 ls st h c n = (o_aload 1 0) r (mx_G r (t_En_init zz)) 4 ls st h c n := mx_G_eq (tm_En_init zz) r 4 ls st h c n
theorem st_En_init_5 (zz : Nat × Nat) (r : mx_T) (ls : mx_L) (st : List Value) (h : mx_H) (c n : Nat) : mx_G r (t_En_init zz) 5 ls st h c n = (o_iload 1 1) r (mx_G r (t_En_init zz)) 5 ls st h c n := mx_G_eq (tm_En_init zz) r 5 ls st h c n
theorem st_En_init_6 (zz : Nat × Nat) (r : mx_T) (ls : mx_L) (st : List Value) (h : mx_H) (c n : Nat) : mx_G r (t_En_init zz) 6 ls st h c n = (o_put 5 0 mx_vI) r (mx_G r (t_En_init zz)) 6 ls st h c n := mx_G_eq (tm_En_init zz) r 6 ls st h c n
theorem st_En_init_9 (zz : Nat × Nat) (r : mx_T) (ls : mx_L) (st : List Value) (h : mx_H) (c n : Nat) : mx_G r (t_En_init zz) 9 ls st h c n = (o_aload 1 0) r (mx_G r (t_En_init zz)) 9 ls st h c n := mx_G_eq (tm_En_init zz) r 9 ls st h c n
theorem st_En_init_10 (zz : Nat × Nat) (r : mx_T) (ls : mx_L) (st : List Value) (h : mx_H) (c n : Nat) : mx_G r (t_En_init zz) 10 ls st h c n = (o_iload 1 2) r (mx_G r (t_En_init zz)) 10 ls st h c n := mx_G_eq (tm_En_init zz) r 10 ls st h c n
theorem st_En_init_11 (zz : Nat × Nat) (r : mx_T) (ls : mx_L) (st : List Value) (h : mx_H) (c n : Nat) : mx_G r (t_En_init zz) 11 ls st h c n = (o_put 5 1 mx_vI) r (mx_G r (t_En_init zz)) 11 ls st h c n := mx_G_eq (tm_En_init zz) r 11 ls st h c n
theorem st_En_init_14 (zz : Nat × Nat) (r : mx_T) (ls : mx_L) (st : List Value) (h : mx_H) (c n : Nat) : mx_G r (t_En_init zz) 14 ls st h c n = (o_aload 1 0) r (mx_G r (t_En_init zz)) 14 ls st h c n := mx_G_eq (tm_En_init zz) r 14 ls st h c n
theorem st_En_init_15 (zz : Nat × Nat) (r : mx_T) (ls : mx_L) (st : List Value) (h : mx_H) (c n : Nat) : mx_G r (t_En_init zz) 15 ls st h c n = (o_iload 1 3) r (mx_G r (t_En_init zz)) 15 ls st h c n := mx_G_eq (tm_En_init zz) r 15 ls st h c n
theorem st_En_init_16 (zz : Nat × Nat) (r : mx_T) (ls : mx_L) (st : List Value) (h : mx_H) (c n : Nat) : mx_G r (t_En_init zz) 16 ls st h c n = (o_put 5 2 mx_vI) r (mx_G r (t_En_init zz)) 16 ls st h c n := mx_G_eq (tm_En_init zz) r 16 ls st h c n
theorem st_En_init_19 (zz : Nat × Nat) (r : mx_T) (ls : mx_L) (st : List Value) (h : mx_H) (c n : Nat) : mx_G r (t_En_init zz) 19 ls st h c n = (o_vret) r (mx_G r (t_En_init zz)) 19 ls st h c n := mx_G_eq (tm_En_init zz) r 19 ls st h c n
theorem d_Hs_entry_0 : decode c_Hs_entry 0 = .ok (.aload_n 0, 1) := by decide +kernel
theorem d_Hs_entry_1 : decode c_Hs_entry 1 = .ok (.getfield 47, 3) := by decide +kernel
theorem d_Hs_entry_4 : decode c_Hs_entry 4 = .ok (.ifCond .ne 23, 3) := by decide +kernel
theorem d_Hs_entry_7 : decode c_Hs_entry 7 = .ok (.iload_n 1, 1) := by decide +kernel
theorem d_Hs_entry_8 : decode c_Hs_entry 8 = .ok (.invokestatic 122, 3) := by decide +kernel
theorem d_Hs_entry_11 : decode c_Hs_entry 11 = .ok (.ifCond .eq 16, 3) := by decide +kernel
theorem d_Hs_entry_14 : decode c_Hs_entry 14 = .ok (.aload_n 0, 1) := by decide +kernel
theorem d_Hs_entry_15 : decode c_Hs_entry 15 = .ok (.getfield 32, 3) := by decide +kernel
theorem d_Hs_entry_18 : decode c_Hs_entry 18 = .ok (.iload_n 1, 1) := by decide +kernel
theorem d_Hs_entry_19 : decode c_Hs_entry 19 = .ok (.invokevirtual 140, 3) := by decide +kernel
theorem d_Hs_entry_22 : decode c_Hs_entry 22 = .ok (.bipush 8, 2) := by decide +kernel
theorem d_Hs_entry_24 : decode c_Hs_entry 24 = .ok (.if_icmp .lt 5, 3) := by decide +kernel
theorem d_Hs_entry_27 : decode c_Hs_entry 27 = .ok (.iconst 0, 1) := by decide +kernel
theorem d_Hs_entry_28 : decode c_Hs_entry 28 = .ok (.ireturn, 1) := by decide +kernel
theorem d_Hs_entry_29 : decode c_Hs_entry 29 = .ok (.iload_n 3, 1) := by decide +kernel
theorem d_Hs_entry_30 : decode c_Hs_entry 30 = .ok (.iconst 0, 1) := by decide +kernel
theorem d_Hs_entry_31 : decode c_Hs_entry 31 = .ok (.aload_n 0, 1) := by decide +kernel
theorem d_Hs_entry_32 : decode c_Hs_entry 32 = .ok (.iload_n 2, 1) := by decide +kernel
theorem d_Hs_entry_33 : decode c_Hs_entry 33 = .ok (.invokevirtual 143, 3) := by decide +kernel
theorem d_Hs_entry_36 : decode c_Hs_entry 36 = .ok (.iconst 1, 1) := by decide +kernel
theorem d_Hs_entry_37 : decode c_Hs_entry 37 = .ok (.isub, 1) := by decide +kernel
theorem d_Hs_entry_38 : decode c_Hs_entry 38 = .ok (.invokestatic 66, 3) := by decide +kernel
theorem d_Hs_entry_41 : decode c_Hs_entry 41 = .ok (.ifCond .eq 14, 3) := by decide +kernel
theorem d_Hs_entry_44 : decode c_Hs_entry 44 = .ok (.iload 4, 2) := by decide +kernel
theorem d_Hs_entry_46 : decode c_Hs_entry 46 = .ok (.iconst 1, 1) := by decide +kernel
theorem d_Hs_entry_47 : decode c_Hs_entry 47 = .ok (.bipush 20, 2) := by decide +kernel
theorem d_Hs_entry_49 : decode c_Hs_entry 49 = .ok (.invokestatic 66, 3) := by decide +kernel
theorem d_Hs_entry_52 : decode c_Hs_entry 52 = .ok (.ifCond .ne 5, 3) := by decide +kernel
theorem d_Hs_entry_55 : decode c_Hs_entry 55 = .ok (.iconst 0, 1) := by decide +kernel
theorem d_Hs_entry_56 : decode c_Hs_entry 56 = .ok (.ireturn, 1) := by decide +kernel
theorem d_Hs_entry_57 : decode c_Hs_entry 57 = .ok (.aload_n 0, 1) := by decide +kernel
theorem d_Hs_entry_58 : decode c_Hs_entry 58 = .ok (.getfield 32, 3) := by decide +kernel
theorem d_Hs_entry_61 : decode c_Hs_entry 61 = .ok (.getfield 146, 3) := by decide +kernel
theorem d_Hs_entry_64 : decode c_Hs_entry 64 = .ok (.iload_n 1, 1) := by decide +kernel
theorem d_Hs_entry_65 : decode c_Hs_entry 65 = .ok (.aaload, 1) := by decide +kernel
theorem d_Hs_entry_66 : decode c_Hs_entry 66 = .ok (.getfield 150, 3) := by decide +kernel
theorem d_Hs_entry_69 : decode c_Hs_entry 69 = .ok (.new 155, 3) := by decide +kernel
theorem d_Hs_entry_72 : decode c_Hs_entry 72 = .ok (.dup, 1) := by decide +kernel
theorem d_Hs_entry_73 : decode c_Hs_entry 73 = .ok (.iload_n 2, 1) := by decide +kernel
theorem d_Hs_entry_74 : decode c_Hs_entry 74 = .ok (.iload_n 3, 1) := by decide +kernel
theorem d_Hs_entry_75 : decode c_Hs_entry 75 = .ok (.iload 4, 2) := by decide +kernel
theorem d_Hs_entry_77 : decode c_Hs_entry 77 = .ok (.invokespecial 157, 3) := by decide +kernel
theorem d_Hs_entry_80 : decode c_Hs_entry 80 = .ok (.invokevirtual 79, 3) := by decide +kernel
theorem d_Hs_entry_83 : decode c_Hs_entry 83 = .ok (.pop, 1) := by decide +kernel
theorem d_Hs_entry_84 : decode c_Hs_entry 84 = .ok (.iconst 1, 1) := by decide +kernel
theorem d_Hs_entry_85 : decode c_Hs_entry 85 = .ok (.ireturn, 1) := by decide +kernel
def t_Hs_entry (zz : Nat × Nat) : List (Nat × mx_O) := [(0, o_aload 1 0),
  (1, o_get 0 8),
  (4, o_if 27 (fun x => ¬ x = 0)),
  (7, o_iload 1 1),
  (8, o_call 3 131 1 0 0 (fun _ _ => True) (S_Hs_isTable zz)),
  (11, o_if 27 (fun x => x = 0)),
  (14, o_aload 1 0),
  (15, o_get 0 5),
  (18, o_iload 1 1),
  (19, o_call 3 131 2 0 0 (mx_rv 7) (S_Sc_sizeOf zz)),
  (22, o_push 2 (.int 8)),
  (24, o_icmp 29 (fun x y => x < y)),
  (27, o_push 1 (.int 0)),
  (28, o_zret),
  (29, o_iload 1 3),
  (30, o_push 1 (.int 0)),
  (31, o_aload 1 0),
  (32, o_iload 1 2),
  (33, o_call 3 131 2 0 0 (mx_rv 0) (S_Hs_howManyOf zz)),
  (36, o_push 1 (.int 1)),
  (37, o_ii (fun x y => x - y)),
  (38, o_call 3 131 3 0 0 (fun _ _ => True) (S_Hs_isWithin zz)),
  (41, o_if 55 (fun x => x = 0)),
  (44, o_iload 2 4),
  (46, o_push 1 (.int 1)),
  (47, o_push 2 (.int 20)),
  (49, o_call 3 131 3 0 0 (fun _ _ => True) (S_Hs_isWithin zz)),
  (52, o_if 57 (fun x => ¬ x = 0)),
  (55, o_push 1 (.int 0)),
  (56, o_zret),
  (57, o_aload 1 0),
  (58, o_get 0 5),
  (61, o_get 7 0),
  (64, o_iload 1 1),
  (65, o_aald),
  (66, o_get 6 0),
  (69, o_new 3 131 5 3 [.int 0, .int 0, .int 0]),
  (72, o_dup),
  (73, o_iload 1 2),
  (74, o_iload 1 3),
  (75, o_iload 2 4),
  (77, o_call 3 131 4 0 0 mx_rr (S_En_init zz)),
  (80, o_call 3 131 2 2 128 (mx_rv 9) (S_Al_add zz)),
  (83, o_pop),
  (84, o_push 1 (.int 1)),
  (85, o_zret)]
set_option maxRecDepth 100000 in
theorem tm_Hs_entry (zz : Nat × Nat) : mx_All (fun _ o => mx_Mono o) (t_Hs_entry zz) := by
  refine mx_all_cons (mo_st) ?_
  refine mx_all_cons (mo_st) ?_
  refine mx_all_cons (mo_br) ?_
  refine mx_all_cons (mo_st) ?_
  refine mx_all_cons (mo_call (sm_Hs_isTable zz)) ?_
  refine mx_all_cons (mo_br) ?_
  refine mx_all_cons (mo_st) ?_
  refine mx_all_cons (mo_st) ?_
  refine mx_all_cons (mo_st) ?_
  refine mx_all_cons (mo_call (sm_Sc_sizeOf zz)) ?_
  refine mx_all_cons (mo_st) ?_
  refine mx_all_cons (mo_br) ?_
  refine mx_all_cons (mo_st) ?_
  refine mx_all_cons (mo_zret) ?_
  refine mx_all_cons (mo_st) ?_
  refine mx_all_cons (mo_st) ?_
  refine mx_all_cons (mo_st) ?_
  refine mx_all_cons (mo_st) ?_
  refine mx_all_cons (mo_call (sm_Hs_howManyOf zz)) ?_
  refine mx_all_cons (mo_st) ?_
  refine mx_all_cons (mo_st) ?_
  refine mx_all_cons (mo_call (sm_Hs_isWithin zz)) ?_
  refine mx_all_cons (mo_br) ?_
  refine mx_all_cons (mo_st) ?_
  refine mx_all_cons (mo_st) ?_
  refine mx_all_cons (mo_st) ?_
  refine mx_all_cons (mo_call (sm_Hs_isWithin zz)) ?_
  refine mx_all_cons (mo_br) ?_
  refine mx_all_cons (mo_st) ?_
  refine mx_all_cons (mo_zret) ?_
  refine mx_all_cons (mo_st) ?_
  refine mx_all_cons (mo_st) ?_
  refine mx_all_cons (mo_st) ?_
  refine mx_all_cons (mo_st) ?_
  refine mx_all_cons (mo_sc) ?_
  refine mx_all_cons (mo_st) ?_
  refine mx_all_cons (mo_al) ?_
  refine mx_all_cons (mo_st) ?_
  refine mx_all_cons (mo_st) ?_
  refine mx_all_cons (mo_st) ?_
  refine mx_all_cons (mo_st) ?_
  refine mx_all_cons (mo_call (sm_En_init zz)) ?_
  refine mx_all_cons (mo_call (sm_Al_add zz)) ?_
  refine mx_all_cons (mo_st) ?_
  refine mx_all_cons (mo_st) ?_
  refine mx_all_cons (mo_zret) ?_
  exact mx_all_nil
def S_Hs_entry (zz : Nat × Nat) : mx_Sp := mx_S 5 3 131 (t_Hs_entry zz)
theorem sm_Hs_entry (zz : Nat × Nat) : mx_SMono (S_Hs_entry zz) := mx_S_mono (tm_Hs_entry zz)
abbrev rm_Hs_entry : Room := { frames := 7, cells := 3, slots := 131, locals := 191 }
set_option maxHeartbeats 4000000 in
set_option maxRecDepth 100000 in
theorem m_Hs_entry (l : Launch) (zz : Nat × Nat) : mx_Met l y_Hs_entry (wsOf y_Hs_entry c_Hs_entry 5 (some .boolean)) rm_Hs_entry wcl (mx_Z zz) 3 131 (S_Hs_entry zz) := by
  refine mx_met (cc := c_Hs_entry) (ret := (some .boolean)) (by decide) rfl ?_
  intro p e s m args below meth c D A Post X hz hr hlk hnm
  have hm : ∀ w ∈ mw, w.before args s = true := fun w h => X.1.2.2.2.2 w (List.mem_cons_of_mem _ h)
  refine mx_all_cons (ok_aload (fun hl kk => lv_aload_n X.1.1 X.1.2.1 d_Hs_entry_0 rfl hl kk) (fun hl kk => lv_aload_nN X.1.1 X.1.2.1 d_Hs_entry_0 rfl hl kk)) ?_
  refine mx_all_cons (ok_get (C := "HeaderSchedule") (T := T_Hs) (N := 11) X (mw_up in_Hs) rfl 8 (by decide) (hm _ w166) (fun _ h9 => h9) d_Hs_entry_1) ?_
  refine mx_all_cons (ok_if (fun kt kf => lv_if_ne X.1.1 X.1.2.1 d_Hs_entry_4 (by decide) kt (fun z => kf (fun g => g z)))) ?_
  refine mx_all_cons (ok_iload (fun hl kk => lv_iload_n X.1.1 X.1.2.1 d_Hs_entry_7 rfl hl kk)) ?_
  refine mx_all_cons (ok_callS X (mx_Zok_Z zz) hz ⟨(Nat.le_of_ble_eq_true rfl), (Nat.le_of_ble_eq_true rfl)⟩ (m_Hs_isTable l zz) ⟨mx_cwB 1 hm w409 w407 w33 rfl rfl (by decide +kernel) ⟨(Nat.le_of_ble_eq_true rfl), (Nat.le_of_ble_eq_true rfl)⟩, (hm _ w408)⟩ d_Hs_entry_8) ?_
  refine mx_all_cons (ok_if (fun kt kf => lv_if_eq X.1.1 X.1.2.1 d_Hs_entry_11 (by decide) kt kf)) ?_
  refine mx_all_cons (ok_aload (fun hl kk => lv_aload_n X.1.1 X.1.2.1 d_Hs_entry_14 rfl hl kk) (fun hl kk => lv_aload_nN X.1.1 X.1.2.1 d_Hs_entry_14 rfl hl kk)) ?_
  refine mx_all_cons (ok_get (C := "HeaderSchedule") (T := T_Hs) (N := 11) X (mw_up in_Hs) rfl 5 (by decide) (hm _ w163) (fun _ h9 => h9) d_Hs_entry_15) ?_
  refine mx_all_cons (ok_iload (fun hl kk => lv_iload_n X.1.1 X.1.2.1 d_Hs_entry_18 rfl hl kk)) ?_
  refine mx_all_cons (ok_callV (C := "HeaderSchedule$Schedule") (T := T_Sc) (N := 8) X (mx_Zok_Z zz) hz ⟨(Nat.le_of_ble_eq_true rfl), (Nat.le_of_ble_eq_true rfl)⟩ (m_Sc_sizeOf l zz) ⟨mx_cwB 1 hm w454 w451 w37 rfl rfl (by decide +kernel) ⟨(Nat.le_of_ble_eq_true rfl), (Nat.le_of_ble_eq_true rfl)⟩, (hm _ w452), hm _ w453⟩ rfl d_Hs_entry_19) ?_
  refine mx_all_cons (ok_push (fun kk => lv_bipush X.1.1 X.1.2.1 d_Hs_entry_22 (by decide) kk)) ?_
  refine mx_all_cons (ok_icmp (fun kt kf => lv_icmp_lt X.1.1 X.1.2.1 d_Hs_entry_24 (by decide) kt kf)) ?_
  refine mx_all_cons (ok_push (fun kk => lv_iconst X.1.1 X.1.2.1 d_Hs_entry_27 (by decide) kk)) ?_
  refine mx_all_cons (ok_zret X hr hlk d_Hs_entry_28) ?_
  refine mx_all_cons (ok_iload (fun hl kk => lv_iload_n X.1.1 X.1.2.1 d_Hs_entry_29 rfl hl kk)) ?_
  refine mx_all_cons (ok_push (fun kk => lv_iconst X.1.1 X.1.2.1 d_Hs_entry_30 (by decide) kk)) ?_
  refine mx_all_cons (ok_aload (fun hl kk => lv_aload_n X.1.1 X.1.2.1 d_Hs_entry_31 rfl hl kk) (fun hl kk => lv_aload_nN X.1.1 X.1.2.1 d_Hs_entry_31 rfl hl kk)) ?_
  refine mx_all_cons (ok_iload (fun hl kk => lv_iload_n X.1.1 X.1.2.1 d_Hs_entry_32 rfl hl kk)) ?_
  refine mx_all_cons (ok_callV (C := "HeaderSchedule") (T := T_Hs) (N := 11) X (mx_Zok_Z zz) hz ⟨(Nat.le_of_ble_eq_true rfl), (Nat.le_of_ble_eq_true rfl)⟩ (m_Hs_howManyOf l zz) ⟨mx_cwB 1 hm w459 w456 w33 rfl rfl (by decide +kernel) ⟨(Nat.le_of_ble_eq_true rfl), (Nat.le_of_ble_eq_true rfl)⟩, (hm _ w458), hm _ w8⟩ rfl d_Hs_entry_33) ?_
  refine mx_all_cons (ok_push (fun kk => lv_iconst X.1.1 X.1.2.1 d_Hs_entry_36 (by decide) kk)) ?_
  refine mx_all_cons (ok_ii (fun kk => lv_isub X.1.1 X.1.2.1 d_Hs_entry_37 kk)) ?_
  refine mx_all_cons (ok_callS X (mx_Zok_Z zz) hz ⟨(Nat.le_of_ble_eq_true rfl), (Nat.le_of_ble_eq_true rfl)⟩ (m_Hs_isWithin l zz) ⟨mx_cwB 3 hm w206 w204 w33 rfl rfl (by decide +kernel) ⟨(Nat.le_of_ble_eq_true rfl), (Nat.le_of_ble_eq_true rfl)⟩, (hm _ w205)⟩ d_Hs_entry_38) ?_
  refine mx_all_cons (ok_if (fun kt kf => lv_if_eq X.1.1 X.1.2.1 d_Hs_entry_41 (by decide) kt kf)) ?_
  refine mx_all_cons (ok_iload (fun hl kk => lv_iload X.1.1 X.1.2.1 d_Hs_entry_44 hl kk)) ?_
  refine mx_all_cons (ok_push (fun kk => lv_iconst X.1.1 X.1.2.1 d_Hs_entry_46 (by decide) kk)) ?_
  refine mx_all_cons (ok_push (fun kk => lv_bipush X.1.1 X.1.2.1 d_Hs_entry_47 (by decide) kk)) ?_
  refine mx_all_cons (ok_callS X (mx_Zok_Z zz) hz ⟨(Nat.le_of_ble_eq_true rfl), (Nat.le_of_ble_eq_true rfl)⟩ (m_Hs_isWithin l zz) ⟨mx_cwB 3 hm w206 w204 w33 rfl rfl (by decide +kernel) ⟨(Nat.le_of_ble_eq_true rfl), (Nat.le_of_ble_eq_true rfl)⟩, (hm _ w205)⟩ d_Hs_entry_49) ?_
  refine mx_all_cons (ok_if (fun kt kf => lv_if_ne X.1.1 X.1.2.1 d_Hs_entry_52 (by decide) kt (fun z => kf (fun g => g z)))) ?_
  refine mx_all_cons (ok_push (fun kk => lv_iconst X.1.1 X.1.2.1 d_Hs_entry_55 (by decide) kk)) ?_
  refine mx_all_cons (ok_zret X hr hlk d_Hs_entry_56) ?_
  refine mx_all_cons (ok_aload (fun hl kk => lv_aload_n X.1.1 X.1.2.1 d_Hs_entry_57 rfl hl kk) (fun hl kk => lv_aload_nN X.1.1 X.1.2.1 d_Hs_entry_57 rfl hl kk)) ?_
  refine mx_all_cons (ok_get (C := "HeaderSchedule") (T := T_Hs) (N := 11) X (mw_up in_Hs) rfl 5 (by decide) (hm _ w163) (fun _ h9 => h9) d_Hs_entry_58) ?_
  refine mx_all_cons (ok_get (C := "HeaderSchedule$Schedule") (T := T_Sc) (N := 8) X (mw_up in_Sc) rfl 0 (by decide) (hm _ w109) (fun _ h9 => h9) d_Hs_entry_61) ?_
  refine mx_all_cons (ok_iload (fun hl kk => lv_iload_n X.1.1 X.1.2.1 d_Hs_entry_64 rfl hl kk)) ?_
  refine mx_all_cons (ok_aald X d_Hs_entry_65) ?_
  refine mx_all_cons (ok_get (C := "HeaderSchedule$Table") (T := T_Tb) (N := 1) X (mw_up in_Tb) rfl 0 (by decide) (hm _ w103) (fun _ h9 => h9) d_Hs_entry_66) ?_
  refine mx_all_cons (ok_new (C := "HeaderSchedule$Entry") (T := T_En) X ⟨(Nat.le_of_ble_eq_true rfl), (Nat.le_of_ble_eq_true rfl)⟩ (mw_up in_En) ty_En tyok_En rfl (hm _ w460) (hm _ w461) (hm _ w51) (by decide) d_Hs_entry_69) ?_
  refine mx_all_cons (ok_dup X d_Hs_entry_72) ?_
  refine mx_all_cons (ok_iload (fun hl kk => lv_iload_n X.1.1 X.1.2.1 d_Hs_entry_73 rfl hl kk)) ?_
  refine mx_all_cons (ok_iload (fun hl kk => lv_iload_n X.1.1 X.1.2.1 d_Hs_entry_74 rfl hl kk)) ?_
  refine mx_all_cons (ok_iload (fun hl kk => lv_iload X.1.1 X.1.2.1 d_Hs_entry_75 hl kk)) ?_
  refine mx_all_cons (ok_callI X (mx_Zok_Z zz) hz ⟨(Nat.le_of_ble_eq_true rfl), (Nat.le_of_ble_eq_true rfl)⟩ (m_En_init l zz) ⟨mx_cwB 3 hm w464 w462 w51 rfl rfl (by decide +kernel) ⟨(Nat.le_of_ble_eq_true rfl), (Nat.le_of_ble_eq_true rfl)⟩, rfl, (hm _ w463)⟩ d_Hs_entry_77) ?_
  refine mx_all_cons (ok_callV (C := "java/util/ArrayList") (T := T_Al) (N := 3) X (mx_Zok_Z zz) hz ⟨(Nat.le_of_ble_eq_true rfl), (Nat.le_of_ble_eq_true rfl)⟩ (m_Al_add l zz) ⟨mx_cwB 1 hm w260 w257 w36 rfl rfl (by decide +kernel) ⟨(Nat.le_of_ble_eq_true rfl), (Nat.le_of_ble_eq_true rfl)⟩, (hm _ w258), hm _ w259⟩ rfl d_Hs_entry_80) ?_
  refine mx_all_cons (ok_pop X d_Hs_entry_83) ?_
  refine mx_all_cons (ok_push (fun kk => lv_iconst X.1.1 X.1.2.1 d_Hs_entry_84 (by decide) kk)) ?_
  refine mx_all_cons (ok_zret X hr hlk d_Hs_entry_85) ?_
  exact mx_all_nil
theorem st_Hs_entry_0 (zz : Nat × Nat) (r : mx_T) (ls : mx_L) (st : List Value) (h : mx_H) (c n : Nat) : mx_G r (t_Hs_entry zz) 0 ls st h c n = (o_aload 1 0) r (mx_G r (t_Hs_entry zz)) 0 ls st h c n := mx_G_eq (tm_Hs_entry zz) r 0 ls st h c n
theorem st_Hs_entry_1 (zz : Nat × Nat) (r : mx_T) (ls : mx_L) (st : List Value) (h : mx_H) (c n : Nat) : mx_G r (t_Hs_entry zz) 1 ls st h c n = (o_get 0 8) r (mx_G r (t_Hs_entry zz)) 1 ls st h c n := mx_G_eq (tm_Hs_entry zz) r 1 ls st h c n
theorem st_Hs_entry_4 (zz : Nat × Nat) (r : mx_T) (ls : mx_L) (st : List Value) (h : mx_H) (c n : Nat) : mx_G r (t_Hs_entry zz) 4 ls st h c n = (o_if 27 (fun x => ¬ x = 0)) r (mx_G r (t_Hs_entry zz)) 4 ls st h c n := mx_G_eq (tm_Hs_entry zz) r 4 ls st h c n
theorem st_Hs_entry_7 (zz : Nat × Nat) (r : mx_T) (ls : mx_L) (st : List Value) (h : mx_H) (c n : Nat) : mx_G r (t_Hs_entry zz) 7 ls st h c n = (o_iload 1 1) r (mx_G r (t_Hs_entry zz)) 7 ls st h c n := mx_G_eq (tm_Hs_entry zz) r 7 ls st h c n
theorem st_Hs_entry_8 (zz : Nat × Nat) (r : mx_T) (ls : mx_L) (st : List Value) (h : mx_H) (c n : Nat) : mx_G r (t_Hs_entry zz) 8 ls st h c n = (o_call 3 131 1 0 0 (fun _ _ => True) (S_Hs_isTable zz)) r (mx_G r (t_Hs_entry zz)) 8 ls st h c n := mx_G_eq (tm_Hs_entry zz) r 8 ls st h c n
theorem st_Hs_entry_11 (zz : Nat × Nat) (r : mx_T) (ls : mx_L) (st : List Value) (h : mx_H) (c n : Nat) : mx_G r (t_Hs_entry zz) 11 ls st h c n = (o_if 27 (fun x => x = 0)) r (mx_G r (t_Hs_entry zz)) 11 ls st h c n := mx_G_eq (tm_Hs_entry zz) r 11 ls st h c n
theorem st_Hs_entry_14 (zz : Nat × Nat) (r : mx_T) (ls : mx_L) (st : List Value) (h : mx_H) (c n : Nat) : mx_G r (t_Hs_entry zz) 14 ls st h c n = (o_aload 1 0) r (mx_G r (t_Hs_entry zz)) 14 ls st h c n := mx_G_eq (tm_Hs_entry zz) r 14 ls st h c n
theorem st_Hs_entry_15 (zz : Nat × Nat) (r : mx_T) (ls : mx_L) (st : List Value) (h : mx_H) (c n : Nat) : mx_G r (t_Hs_entry zz) 15 ls st h c n = (o_get 0 5) r (mx_G r (t_Hs_entry zz)) 15 ls st h c n := mx_G_eq (tm_Hs_entry zz) r 15 ls st h c n
theorem st_Hs_entry_18 (zz : Nat × Nat) (r : mx_T) (ls : mx_L) (st : List Value) (h : mx_H) (c n : Nat) : mx_G r (t_Hs_entry zz) 18 ls st h c n = (o_iload 1 1) r (mx_G r (t_Hs_entry zz)) 18 ls st h c n := mx_G_eq (tm_Hs_entry zz) r 18 ls st h c n
theorem st_Hs_entry_19 (zz : Nat × Nat) (r : mx_T) (ls : mx_L) (st : List Value) (h : mx_H) (c n : Nat) : mx_G r (t_Hs_entry zz) 19 ls st h c n = (o_call 3 131 2 0 0 (mx_rv 7) (S_Sc_sizeOf zz)) r (mx_G r (t_Hs_entry zz)) 19 ls st h c n := mx_G_eq (tm_Hs_entry zz) r 19 ls st h c n
theorem st_Hs_entry_22 (zz : Nat × Nat) (r : mx_T) (ls : mx_L) (st : List Value) (h : mx_H) (c n : Nat) : mx_G r (t_Hs_entry zz) 22 ls st h c n = (o_push 2 (.int 8)) r (mx_G r (t_Hs_entry zz)) 22 ls st h c n := mx_G_eq (tm_Hs_entry zz) r 22 ls st h c n
theorem st_Hs_entry_24 (zz : Nat × Nat) (r : mx_T) (ls : mx_L) (st : List Value) (h : mx_H) (c n : Nat) : mx_G r (t_Hs_entry zz) 24 ls st h c n = (o_icmp 29 (fun x y => x < y)) r (mx_G r (t_Hs_entry zz)) 24 ls st h c n := mx_G_eq (tm_Hs_entry zz) r 24 ls st h c n
theorem st_Hs_entry_27 (zz : Nat × Nat) (r : mx_T) (ls : mx_L) (st : List Value) (h : mx_H) (c n : Nat) : mx_G r (t_Hs_entry zz) 27 ls st h c n = (o_push 1 (.int 0)) r (mx_G r (t_Hs_entry zz)) 27 ls st h c n := mx_G_eq (tm_Hs_entry zz) r 27 ls st h c n
theorem st_Hs_entry_28 (zz : Nat × Nat) (r : mx_T) (ls : mx_L) (st : List Value) (h : mx_H) (c n : Nat) : mx_G r (t_Hs_entry zz) 28 ls st h c n = (o_zret) r (mx_G r (t_Hs_entry zz)) 28 ls st h c n := mx_G_eq (tm_Hs_entry zz) r 28 ls st h c n
theorem st_Hs_entry_29 (zz : Nat × Nat) (r : mx_T) (ls : mx_L) (st : List Value) (h : mx_H) (c n : Nat) : mx_G r (t_Hs_entry zz) 29 ls st h c n = (o_iload 1 3) r (mx_G r (t_Hs_entry zz)) 29 ls st h c n := mx_G_eq (tm_Hs_entry zz) r 29 ls st h c n
theorem st_Hs_entry_30 (zz : Nat × Nat) (r : mx_T) (ls : mx_L) (st : List Value) (h : mx_H) (c n : Nat) : mx_G r (t_Hs_entry zz) 30 ls st h c n = (o_push 1 (.int 0)) r (mx_G r (t_Hs_entry zz)) 30 ls st h c n := mx_G_eq (tm_Hs_entry zz) r 30 ls st h c n
theorem st_Hs_entry_31 (zz : Nat × Nat) (r : mx_T) (ls : mx_L) (st : List Value) (h : mx_H) (c n : Nat) : mx_G r (t_Hs_entry zz) 31 ls st h c n = (o_aload 1 0) r (mx_G r (t_Hs_entry zz)) 31 ls st h c n := mx_G_eq (tm_Hs_entry zz) r 31 ls st h c n
theorem st_Hs_entry_32 (zz : Nat × Nat) (r : mx_T) (ls : mx_L) (st : List Value) (h : mx_H) (c n : Nat) : mx_G r (t_Hs_entry zz) 32 ls st h c n = (o_iload 1 2) r (mx_G r (t_Hs_entry zz)) 32 ls st h c n := mx_G_eq (tm_Hs_entry zz) r 32 ls st h c n
theorem st_Hs_entry_33 (zz : Nat × Nat) (r : mx_T) (ls : mx_L) (st : List Value) (h : mx_H) (c n : Nat) : mx_G r (t_Hs_entry zz) 33 ls st h c n = (o_call 3 131 2 0 0 (mx_rv 0) (S_Hs_howManyOf zz)) r (mx_G r (t_Hs_entry zz)) 33 ls st h c n := mx_G_eq (tm_Hs_entry zz) r 33 ls st h c n
theorem st_Hs_entry_36 (zz : Nat × Nat) (r : mx_T) (ls : mx_L) (st : List Value) (h : mx_H) (c n : Nat) : mx_G r (t_Hs_entry zz) 36 ls st h c n = (o_push 1 (.int 1)) r (mx_G r (t_Hs_entry zz)) 36 ls st h c n := mx_G_eq (tm_Hs_entry zz) r 36 ls st h c n
theorem st_Hs_entry_37 (zz : Nat × Nat) (r : mx_T) (ls : mx_L) (st : List Value) (h : mx_H) (c n : Nat) : mx_G r (t_Hs_entry zz) 37 ls st h c n = (o_ii (fun x y => x - y)) r (mx_G r (t_Hs_entry zz)) 37 ls st h c n := mx_G_eq (tm_Hs_entry zz) r 37 ls st h c n
theorem st_Hs_entry_38 (zz : Nat × Nat) (r : mx_T) (ls : mx_L) (st : List Value) (h : mx_H) (c n : Nat) : mx_G r (t_Hs_entry zz) 38 ls st h c n = (o_call 3 131 3 0 0 (fun _ _ => True) (S_Hs_isWithin zz)) r (mx_G r (t_Hs_entry zz)) 38 ls st h c n := mx_G_eq (tm_Hs_entry zz) r 38 ls st h c n
theorem st_Hs_entry_41 (zz : Nat × Nat) (r : mx_T) (ls : mx_L) (st : List Value) (h : mx_H) (c n : Nat) : mx_G r (t_Hs_entry zz) 41 ls st h c n = (o_if 55 (fun x => x = 0)) r (mx_G r (t_Hs_entry zz)) 41 ls st h c n := mx_G_eq (tm_Hs_entry zz) r 41 ls st h c n
theorem st_Hs_entry_44 (zz : Nat × Nat) (r : mx_T) (ls : mx_L) (st : List Value) (h : mx_H) (c n : Nat) : mx_G r (t_Hs_entry zz) 44 ls st h c n = (o_iload 2 4) r (mx_G r (t_Hs_entry zz)) 44 ls st h c n := mx_G_eq (tm_Hs_entry zz) r 44 ls st h c n
theorem st_Hs_entry_46 (zz : Nat × Nat) (r : mx_T) (ls : mx_L) (st : List Value) (h : mx_H) (c n : Nat) : mx_G r (t_Hs_entry zz) 46 ls st h c n = (o_push 1 (.int 1)) r (mx_G r (t_Hs_entry zz)) 46 ls st h c n := mx_G_eq (tm_Hs_entry zz) r 46 ls st h c n
theorem st_Hs_entry_47 (zz : Nat × Nat) (r : mx_T) (ls : mx_L) (st : List Value) (h : mx_H) (c n : Nat) : mx_G r (t_Hs_entry zz) 47 ls st h c n = (o_push 2 (.int 20)) r (mx_G r (t_Hs_entry zz)) 47 ls st h c n := mx_G_eq (tm_Hs_entry zz) r 47 ls st h c n
theorem st_Hs_entry_49 (zz : Nat × Nat) (r : mx_T) (ls : mx_L) (st : List Value) (h : mx_H) (c n : Nat) : mx_G r (t_Hs_entry zz) 49 ls st h c n = (o_call 3 131 3 0 0 (fun _ _ => True) (S_Hs_isWithin zz)) r (mx_G r (t_Hs_entry zz)) 49 ls st h c n := mx_G_eq (tm_Hs_entry zz) r 49 ls st h c n
theorem st_Hs_entry_52 (zz : Nat × Nat) (r : mx_T) (ls : mx_L) (st : List Value) (h : mx_H) (c n : Nat) : mx_G r (t_Hs_entry zz) 52 ls st h c n = (o_if 57 (fun x => ¬ x = 0)) r (mx_G r (t_Hs_entry zz)) 52 ls st h c n := mx_G_eq (tm_Hs_entry zz) r 52 ls st h c n
theorem st_Hs_entry_55 (zz : Nat × Nat) (r : mx_T) (ls : mx_L) (st : List Value) (h : mx_H) (c n : Nat) : mx_G r (t_Hs_entry zz) 55 ls st h c n = (o_push 1 (.int 0)) r (mx_G r (t_Hs_entry zz)) 55 ls st h c n := mx_G_eq (tm_Hs_entry zz) r 55 ls st h c n
theorem st_Hs_entry_56 (zz : Nat × Nat) (r : mx_T) (ls : mx_L) (st : List Value) (h : mx_H) (c n : Nat) : mx_G r (t_Hs_entry zz) 56 ls st h c n = (o_zret) r (mx_G r (t_Hs_entry zz)) 56 ls st h c n := mx_G_eq (tm_Hs_entry zz) r 56 ls st h c n
theorem st_Hs_entry_57 (zz : Nat × Nat) (r : mx_T) (ls : mx_L) (st : List Value) (h : mx_H) (c n : Nat) : mx_G r (t_Hs_entry zz) 57 ls st h c n = (o_aload 1 0) r (mx_G r (t_Hs_entry zz)) 57 ls st h c n := mx_G_eq (tm_Hs_entry zz) r 57 ls st h c n
theorem st_Hs_entry_58 (zz : Nat × Nat) (r : mx_T) (ls : mx_L) (st : List Value) (h : mx_H) (c n : Nat) : mx_G r (t_Hs_entry zz) 58 ls st h c n = (o_get 0 5) r (mx_G r (t_Hs_entry zz)) 58 ls st h c n := mx_G_eq (tm_Hs_entry zz) r 58 ls st h c n
theorem st_Hs_entry_61 (zz : Nat × Nat) (r : mx_T) (ls : mx_L) (st : List Value) (h : mx_H) (c n : Nat) : mx_G r (t_Hs_entry zz) 61 ls st h c n = (o_get 7 0) r (mx_G r (t_Hs_entry zz)) 61 ls st h c n := mx_G_eq (tm_Hs_entry zz) r 61 ls st h c n
theorem st_Hs_entry_64 (zz : Nat × Nat) (r : mx_T) (ls : mx_L) (st : List Value) (h : mx_H) (c n : Nat) : mx_G r (t_Hs_entry zz) 64 ls st h c n = (o_iload 1 1) r (mx_G r (t_Hs_entry zz)) 64 ls st h c n := mx_G_eq (tm_Hs_entry zz) r 64 ls st h c n
theorem st_Hs_entry_65 (zz : Nat × Nat) (r : mx_T) (ls : mx_L) (st : List Value) (h : mx_H) (c n : Nat) : mx_G r (t_Hs_entry zz) 65 ls st h c n = (o_aald) r (mx_G r (t_Hs_entry zz)) 65 ls st h c n := mx_G_eq (tm_Hs_entry zz) r 65 ls st h c n
theorem st_Hs_entry_66 (zz : Nat × Nat) (r : mx_T) (ls : mx_L) (st : List Value) (h : mx_H) (c n : Nat) : mx_G r (t_Hs_entry zz) 66 ls st h c n = (o_get 6 0) r (mx_G r (t_Hs_entry zz)) 66 ls st h c n := mx_G_eq (tm_Hs_entry zz) r 66 ls st h c n
theorem st_Hs_entry_69 (zz : Nat × Nat) (r : mx_T) (ls : mx_L) (st : List Value) (h : mx_H) (c n : Nat) : mx_G r (t_Hs_entry zz) 69 ls st h c n = (o_new 3 131 5 3 [.int 0, .int 0, .int 0]) r (mx_G r (t_Hs_entry zz)) 69 ls st h c n := mx_G_eq (tm_Hs_entry zz) r 69 ls st h c n
theorem st_Hs_entry_72 (zz : Nat × Nat) (r : mx_T) (ls : mx_L) (st : List Value) (h : mx_H) (c n : Nat) : mx_G r (t_Hs_entry zz) 72 ls st h c n = (o_dup) r (mx_G r (t_Hs_entry zz)) 72 ls st h c n := mx_G_eq (tm_Hs_entry zz) r 72 ls st h c n
theorem st_Hs_entry_73 (zz : Nat × Nat) (r : mx_T) (ls : mx_L) (st : List Value) (h : mx_H) (c n : Nat) : mx_G r (t_Hs_entry zz) 73 ls st h c n = (o_iload 1 2) r (mx_G r (t_Hs_entry zz)) 73 ls st h c n := mx_G_eq (tm_Hs_entry zz) r 73 ls st h c n
theorem st_Hs_entry_74 (zz : Nat × Nat) (r : mx_T) (ls : mx_L) (st : List Value) (h : mx_H) (c n : Nat) : mx_G r (t_Hs_entry zz) 74 ls st h c n = (o_iload 1 3) r (mx_G r (t_Hs_entry zz)) 74 ls st h c n := mx_G_eq (tm_Hs_entry zz) r 74 ls st h c n
theorem st_Hs_entry_75 (zz : Nat × Nat) (r : mx_T) (ls : mx_L) (st : List Value) (h : mx_H) (c n : Nat) : mx_G r (t_Hs_entry zz) 75 ls st h c n = (o_iload 2 4) r (mx_G r (t_Hs_entry zz)) 75 ls st h c n := mx_G_eq (tm_Hs_entry zz) r 75 ls st h c n
theorem st_Hs_entry_77 (zz : Nat × Nat) (r : mx_T) (ls : mx_L) (st : List Value) (h : mx_H) (c n : Nat) : mx_G r (t_Hs_entry zz) 77 ls st h c n = (o_call 3 131 4 0 0 mx_rr (S_En_init zz)) r (mx_G r (t_Hs_entry zz)) 77 ls st h c n := mx_G_eq (tm_Hs_entry zz) r 77 ls st h c n
theorem st_Hs_entry_80 (zz : Nat × Nat) (r : mx_T) (ls : mx_L) (st : List Value) (h : mx_H) (c n : Nat) : mx_G r (t_Hs_entry zz) 80 ls st h c n = (o_call 3 131 2 2 128 (mx_rv 9) (S_Al_add zz)) r (mx_G r (t_Hs_entry zz)) 80 ls st h c n := mx_G_eq (tm_Hs_entry zz) r 80 ls st h c n
theorem st_Hs_entry_83 (zz : Nat × Nat) (r : mx_T) (ls : mx_L) (st : List Value) (h : mx_H) (c n : Nat) : mx_G r (t_Hs_entry zz) 83 ls st h c n = (o_pop) r (mx_G r (t_Hs_entry zz)) 83 ls st h c n := mx_G_eq (tm_Hs_entry zz) r 83 ls st h c n
theorem st_Hs_entry_84 (zz : Nat × Nat) (r : mx_T) (ls : mx_L) (st : List Value) (h : mx_H) (c n : Nat) : mx_G r (t_Hs_entry zz) 84 ls st h c n = (o_push 1 (.int 1)) r (mx_G r (t_Hs_entry zz)) 84 ls st h c n := mx_G_eq (tm_Hs_entry zz) r 84 ls st h c n
theorem st_Hs_entry_85 (zz : Nat × Nat) (r : mx_T) (ls : mx_L) (st : List Value) (h : mx_H) (c n : Nat) : mx_G r (t_Hs_entry zz) 85 ls st h c n = (o_zret) r (mx_G r (t_Hs_entry zz)) 85 ls st h c n := mx_G_eq (tm_Hs_entry zz) r 85 ls st h c n
theorem d_Tb_hasFrame_0 : decode c_Tb_hasFrame 0 = .ok (.iconst 0, 1) := by decide +kernel
theorem d_Tb_hasFrame_1 : decode c_Tb_hasFrame 1 = .ok (.istore_n 2, 1) := by decide +kernel
theorem d_Tb_hasFrame_2 : decode c_Tb_hasFrame 2 = .ok (.iload_n 2, 1) := by decide +kernel
theorem d_Tb_hasFrame_3 : decode c_Tb_hasFrame 3 = .ok (.aload_n 0, 1) := by decide +kernel
theorem d_Tb_hasFrame_4 : decode c_Tb_hasFrame 4 = .ok (.getfield 12, 3) := by decide +kernel
theorem d_Tb_hasFrame_7 : decode c_Tb_hasFrame 7 = .ok (.invokevirtual 38, 3) := by decide +kernel
theorem d_Tb_hasFrame_10 : decode c_Tb_hasFrame 10 = .ok (.if_icmp .ge 38, 3) := by decide +kernel
theorem d_Tb_hasFrame_13 : decode c_Tb_hasFrame 13 = .ok (.aload_n 0, 1) := by decide +kernel
theorem d_Tb_hasFrame_14 : decode c_Tb_hasFrame 14 = .ok (.getfield 12, 3) := by decide +kernel
theorem d_Tb_hasFrame_17 : decode c_Tb_hasFrame 17 = .ok (.iload_n 2, 1) := by decide +kernel
theorem d_Tb_hasFrame_18 : decode c_Tb_hasFrame 18 = .ok (.invokevirtual 42, 3) := by decide +kernel
theorem d_Tb_hasFrame_21 : decode c_Tb_hasFrame 21 = .ok (.checkcast 46, 3) := by decide +kernel
theorem d_Tb_hasFrame_24 : decode c_Tb_hasFrame 24 = .ok (.astore_n 3, 1) := by decide +kernel
theorem d_Tb_hasFrame_25 : decode c_Tb_hasFrame 25 = .ok (.aload_n 3, 1) := by decide +kernel
theorem d_Tb_hasFrame_26 : decode c_Tb_hasFrame 26 = .ok (.getfield 48, 3) := by decide +kernel
theorem d_Tb_hasFrame_29 : decode c_Tb_hasFrame 29 = .ok (.ifCond .ne 13, 3) := by decide +kernel
theorem d_Tb_hasFrame_32 : decode c_Tb_hasFrame 32 = .ok (.aload_n 3, 1) := by decide +kernel
theorem d_Tb_hasFrame_33 : decode c_Tb_hasFrame 33 = .ok (.getfield 51, 3) := by decide +kernel
theorem d_Tb_hasFrame_36 : decode c_Tb_hasFrame 36 = .ok (.iload_n 1, 1) := by decide +kernel
theorem d_Tb_hasFrame_37 : decode c_Tb_hasFrame 37 = .ok (.if_icmp .ne 5, 3) := by decide +kernel
theorem d_Tb_hasFrame_40 : decode c_Tb_hasFrame 40 = .ok (.iconst 1, 1) := by decide +kernel
theorem d_Tb_hasFrame_41 : decode c_Tb_hasFrame 41 = .ok (.ireturn, 1) := by decide +kernel
theorem d_Tb_hasFrame_42 : decode c_Tb_hasFrame 42 = .ok (.iinc 2 1, 3) := by decide +kernel
theorem d_Tb_hasFrame_45 : decode c_Tb_hasFrame 45 = .ok (.goto (-43), 3) := by decide +kernel
theorem d_Tb_hasFrame_48 : decode c_Tb_hasFrame 48 = .ok (.iconst 0, 1) := by decide +kernel
theorem d_Tb_hasFrame_49 : decode c_Tb_hasFrame 49 = .ok (.ireturn, 1) := by decide +kernel
def t_Tb_hasFrame (zz : Nat × Nat) : List (Nat × mx_O) := [(0, o_push 1 (.int 0)),
  (1, o_istore 1 2),
  (2, o_iload 1 2),
  (3, o_aload 1 0),
  (4, o_get 6 0),
  (7, o_call 0 0 1 0 0 (mx_rv 9) (S_Al_size zz)),
  (10, o_icmp 48 (fun x y => y ≤ x)),
  (13, o_aload 1 0),
  (14, o_get 6 0),
  (17, o_iload 1 2),
  (18, o_call 0 0 2 0 0 (mx_rv 9) (S_Al_get zz)),
  (21, o_cast 5),
  (24, o_astore 1 3),
  (25, o_aload 1 3),
  (26, o_get 5 0),
  (29, o_if 42 (fun x => ¬ x = 0)),
  (32, o_aload 1 3),
  (33, o_get 5 1),
  (36, o_iload 1 1),
  (37, o_icmp 42 (fun x y => ¬ x = y)),
  (40, o_push 1 (.int 1)),
  (41, o_zret),
  (42, o_iinc 2 1),
  (45, o_goto 2),
  (48, o_push 1 (.int 0)),
  (49, o_zret)]
set_option maxRecDepth 100000 in
theorem tm_Tb_hasFrame (zz : Nat × Nat) : mx_All (fun _ o => mx_Mono o) (t_Tb_hasFrame zz) := by
  refine mx_all_cons (mo_st) ?_
  refine mx_all_cons (mo_st) ?_
  refine mx_all_cons (mo_st) ?_
  refine mx_all_cons (mo_st) ?_
  refine mx_all_cons (mo_st) ?_
  refine mx_all_cons (mo_call (sm_Al_size zz)) ?_
  refine mx_all_cons (mo_br) ?_
  refine mx_all_cons (mo_st) ?_
  refine mx_all_cons (mo_st) ?_
  refine mx_all_cons (mo_st) ?_
  refine mx_all_cons (mo_call (sm_Al_get zz)) ?_
  refine mx_all_cons (mo_sc) ?_
  refine mx_all_cons (mo_st) ?_
  refine mx_all_cons (mo_st) ?_
  refine mx_all_cons (mo_st) ?_
  refine mx_all_cons (mo_br) ?_
  refine mx_all_cons (mo_st) ?_
  refine mx_all_cons (mo_st) ?_
  refine mx_all_cons (mo_st) ?_
  refine mx_all_cons (mo_br) ?_
  refine mx_all_cons (mo_st) ?_
  refine mx_all_cons (mo_zret) ?_
  refine mx_all_cons (mo_st) ?_
  refine mx_all_cons (mo_st) ?_
  refine mx_all_cons (mo_st) ?_
  refine mx_all_cons (mo_zret) ?_
  exact mx_all_nil
def S_Tb_hasFrame (zz : Nat × Nat) : mx_Sp := mx_S 4 0 0 (t_Tb_hasFrame zz)
theorem sm_Tb_hasFrame (zz : Nat × Nat) : mx_SMono (S_Tb_hasFrame zz) := mx_S_mono (tm_Tb_hasFrame zz)
abbrev rm_Tb_hasFrame : Room := { frames := 3, cells := 0, slots := 0, locals := 64 }
set_option maxHeartbeats 4000000 in
set_option maxRecDepth 100000 in
theorem m_Tb_hasFrame (l : Launch) (zz : Nat × Nat) : mx_Met l y_Tb_hasFrame (wsOf y_Tb_hasFrame c_Tb_hasFrame 4 (some .boolean)) rm_Tb_hasFrame wcl (mx_Z zz) 0 0 (S_Tb_hasFrame zz) := by
  refine mx_met (cc := c_Tb_hasFrame) (ret := (some .boolean)) (by decide) rfl ?_
  intro p e s m args below meth c D A Post X hz hr hlk hnm
  have hm : ∀ w ∈ mw, w.before args s = true := fun w h => X.1.2.2.2.2 w (List.mem_cons_of_mem _ h)
  refine mx_all_cons (ok_push (fun kk => lv_iconst X.1.1 X.1.2.1 d_Tb_hasFrame_0 (by decide) kk)) ?_
  refine mx_all_cons (ok_istore (fun hl kk => lv_istore_n X.1.1 X.1.2.1 d_Tb_hasFrame_1 rfl hl (by decide) rfl kk)) ?_
  refine mx_all_cons (ok_iload (fun hl kk => lv_iload_n X.1.1 X.1.2.1 d_Tb_hasFrame_2 rfl hl kk)) ?_
  refine mx_all_cons (ok_aload (fun hl kk => lv_aload_n X.1.1 X.1.2.1 d_Tb_hasFrame_3 rfl hl kk) (fun hl kk => lv_aload_nN X.1.1 X.1.2.1 d_Tb_hasFrame_3 rfl hl kk)) ?_
  refine mx_all_cons (ok_get (C := "HeaderSchedule$Table") (T := T_Tb) (N := 1) X (mw_up in_Tb) rfl 0 (by decide) (hm _ w101) (fun _ h9 => h9) d_Tb_hasFrame_4) ?_
  refine mx_all_cons (ok_callV (C := "java/util/ArrayList") (T := T_Al) (N := 3) X (mx_Zok_Z zz) hz ⟨(Nat.le_of_ble_eq_true rfl), (Nat.le_of_ble_eq_true rfl)⟩ (m_Al_size l zz) ⟨mx_cwB 0 hm w199 w497 w36 rfl rfl (by decide +kernel) ⟨(Nat.le_of_ble_eq_true rfl), (Nat.le_of_ble_eq_true rfl)⟩, (hm _ w197), hm _ w198⟩ rfl d_Tb_hasFrame_7) ?_
  refine mx_all_cons (ok_icmp (fun kt kf => lv_icmp_ge X.1.1 X.1.2.1 d_Tb_hasFrame_10 (by decide) kt kf)) ?_
  refine mx_all_cons (ok_aload (fun hl kk => lv_aload_n X.1.1 X.1.2.1 d_Tb_hasFrame_13 rfl hl kk) (fun hl kk => lv_aload_nN X.1.1 X.1.2.1 d_Tb_hasFrame_13 rfl hl kk)) ?_
  refine mx_all_cons (ok_get (C := "HeaderSchedule$Table") (T := T_Tb) (N := 1) X (mw_up in_Tb) rfl 0 (by decide) (hm _ w101) (fun _ h9 => h9) d_Tb_hasFrame_14) ?_
  refine mx_all_cons (ok_iload (fun hl kk => lv_iload_n X.1.1 X.1.2.1 d_Tb_hasFrame_17 rfl hl kk)) ?_
  refine mx_all_cons (ok_callV (C := "java/util/ArrayList") (T := T_Al) (N := 3) X (mx_Zok_Z zz) hz ⟨(Nat.le_of_ble_eq_true rfl), (Nat.le_of_ble_eq_true rfl)⟩ (m_Al_get l zz) ⟨mx_cwB 1 hm w326 w498 w36 rfl rfl (by decide +kernel) ⟨(Nat.le_of_ble_eq_true rfl), (Nat.le_of_ble_eq_true rfl)⟩, (hm _ w324), hm _ w325⟩ rfl d_Tb_hasFrame_18) ?_
  refine mx_all_cons (ok_cast (C := "HeaderSchedule$Entry") (T := T_En) (N := 3) X rfl (hm _ w499) d_Tb_hasFrame_21) ?_
  refine mx_all_cons (ok_astore (fun hl kk => lv_astore_n X.1.1 X.1.2.1 d_Tb_hasFrame_24 rfl hl (by decide) rfl kk) (fun hl kk => lv_astore_nN X.1.1 X.1.2.1 d_Tb_hasFrame_24 rfl hl (by decide) rfl kk)) ?_
  refine mx_all_cons (ok_aload (fun hl kk => lv_aload_n X.1.1 X.1.2.1 d_Tb_hasFrame_25 rfl hl kk) (fun hl kk => lv_aload_nN X.1.1 X.1.2.1 d_Tb_hasFrame_25 rfl hl kk)) ?_
  refine mx_all_cons (ok_get (C := "HeaderSchedule$Entry") (T := T_En) (N := 3) X (mw_up in_En) rfl 0 (by decide) (hm _ w467) (fun _ h9 => h9) d_Tb_hasFrame_26) ?_
  refine mx_all_cons (ok_if (fun kt kf => lv_if_ne X.1.1 X.1.2.1 d_Tb_hasFrame_29 (by decide) kt (fun z => kf (fun g => g z)))) ?_
  refine mx_all_cons (ok_aload (fun hl kk => lv_aload_n X.1.1 X.1.2.1 d_Tb_hasFrame_32 rfl hl kk) (fun hl kk => lv_aload_nN X.1.1 X.1.2.1 d_Tb_hasFrame_32 rfl hl kk)) ?_
  refine mx_all_cons (ok_get (C := "HeaderSchedule$Entry") (T := T_En) (N := 3) X (mw_up in_En) rfl 1 (by decide) (hm _ w470) (fun _ h9 => h9) d_Tb_hasFrame_33) ?_
  refine mx_all_cons (ok_iload (fun hl kk => lv_iload_n X.1.1 X.1.2.1 d_Tb_hasFrame_36 rfl hl kk)) ?_
  refine mx_all_cons (ok_icmp (fun kt kf => lv_icmp_ne X.1.1 X.1.2.1 d_Tb_hasFrame_37 (by decide) kt (fun z => kf (fun g => g z)))) ?_
  refine mx_all_cons (ok_push (fun kk => lv_iconst X.1.1 X.1.2.1 d_Tb_hasFrame_40 (by decide) kk)) ?_
  refine mx_all_cons (ok_zret X hr hlk d_Tb_hasFrame_41) ?_
  refine mx_all_cons (ok_iinc X (by decide) (by decide) d_Tb_hasFrame_42) ?_
  refine mx_all_cons (ok_goto X d_Tb_hasFrame_45 (by decide)) ?_
  refine mx_all_cons (ok_push (fun kk => lv_iconst X.1.1 X.1.2.1 d_Tb_hasFrame_48 (by decide) kk)) ?_
  refine mx_all_cons (ok_zret X hr hlk d_Tb_hasFrame_49) ?_
  exact mx_all_nil
theorem st_Tb_hasFrame_0 (zz : Nat × Nat) (r : mx_T) (ls : mx_L) (st : List Value) (h : mx_H) (c n : Nat) : mx_G r (t_Tb_hasFrame zz) 0 ls st h c n = (o_push 1 (.int 0)) r (mx_G r (t_Tb_hasFrame zz)) 0 ls st h c n := mx_G_eq (tm_Tb_hasFrame zz) r 0 ls st h c n
theorem st_Tb_hasFrame_1 (zz : Nat × Nat) (r : mx_T) (ls : mx_L) (st : List Value) (h : mx_H) (c n : Nat) : mx_G r (t_Tb_hasFrame zz) 1 ls st h c n = (o_istore 1 2) r (mx_G r (t_Tb_hasFrame zz)) 1 ls st h c n := mx_G_eq (tm_Tb_hasFrame zz) r 1 ls st h c n
theorem st_Tb_hasFrame_2 (zz : Nat × Nat) (r : mx_T) (ls : mx_L) (st : List Value) (h : mx_H) (c n : Nat) : mx_G r (t_Tb_hasFrame zz) 2 ls st h c n = (o_iload 1 2) r (mx_G r (t_Tb_hasFrame zz)) 2 ls st h c n := mx_G_eq (tm_Tb_hasFrame zz) r 2 ls st h c n
theorem st_Tb_hasFrame_3 (zz : Nat × Nat) (r : mx_T) (ls : mx_L) (st : List Value) (h : mx_H) (c n : Nat) : mx_G r (t_Tb_hasFrame zz) 3 ls st h c n = (o_aload 1 0) r (mx_G r (t_Tb_hasFrame zz)) 3 ls st h c n := mx_G_eq (tm_Tb_hasFrame zz) r 3 ls st h c n
theorem st_Tb_hasFrame_4 (zz : Nat × Nat) (r : mx_T) (ls : mx_L) (st : List Value) (h : mx_H) (c n : Nat) : mx_G r (t_Tb_hasFrame zz) 4 ls st h c n = (o_get 6 0) r (mx_G r (t_Tb_hasFrame zz)) 4 ls st h c n := mx_G_eq (tm_Tb_hasFrame zz) r 4 ls st h c n
theorem st_Tb_hasFrame_7 (zz : Nat × Nat) (r : mx_T) (ls : mx_L) (st : List Value) (h : mx_H) (c n : Nat) : mx_G r (t_Tb_hasFrame zz) 7 ls st h c n = (o_call 0 0 1 0 0 (mx_rv 9) (S_Al_size zz)) r (mx_G r (t_Tb_hasFrame zz)) 7 ls st h c n := mx_G_eq (tm_Tb_hasFrame zz) r 7 ls st h c n
theorem st_Tb_hasFrame_10 (zz : Nat × Nat) (r : mx_T) (ls : mx_L) (st : List Value) (h : mx_H) (c n : Nat) : mx_G r (t_Tb_hasFrame zz) 10 ls st h c n = (o_icmp 48 (fun x y => y ≤ x)) r (mx_G r (t_Tb_hasFrame zz)) 10 ls st h c n := mx_G_eq (tm_Tb_hasFrame zz) r 10 ls st h c n
theorem st_Tb_hasFrame_13 (zz : Nat × Nat) (r : mx_T) (ls : mx_L) (st : List Value) (h : mx_H) (c n : Nat) : mx_G r (t_Tb_hasFrame zz) 13 ls st h c n = (o_aload 1 0) r (mx_G r (t_Tb_hasFrame zz)) 13 ls st h c n := mx_G_eq (tm_Tb_hasFrame zz) r 13 ls st h c n
theorem st_Tb_hasFrame_14 (zz : Nat × Nat) (r : mx_T) (ls : mx_L) (st : List Value) (h : mx_H) (c n : Nat) : mx_G r (t_Tb_hasFrame zz) 14 ls st h c n = (o_get 6 0) r (mx_G r (t_Tb_hasFrame zz)) 14 ls st h c n := mx_G_eq (tm_Tb_hasFrame zz) r 14 ls st h c n
theorem st_Tb_hasFrame_17 (zz : Nat × Nat) (r : mx_T) (ls : mx_L) (st : List Value) (h : mx_H) (c n : Nat) : mx_G r (t_Tb_hasFrame zz) 17 ls st h c n = (o_iload 1 2) r (mx_G r (t_Tb_hasFrame zz)) 17 ls st h c n := mx_G_eq (tm_Tb_hasFrame zz) r 17 ls st h c n
theorem st_Tb_hasFrame_18 (zz : Nat × Nat) (r : mx_T) (ls : mx_L) (st : List Value) (h : mx_H) (c n : Nat) : mx_G r (t_Tb_hasFrame zz) 18 ls st h c n = (o_call 0 0 2 0 0 (mx_rv 9) (S_Al_get zz)) r (mx_G r (t_Tb_hasFrame zz)) 18 ls st h c n := mx_G_eq (tm_Tb_hasFrame zz) r 18 ls st h c n
theorem st_Tb_hasFrame_21 (zz : Nat × Nat) (r : mx_T) (ls : mx_L) (st : List Value) (h : mx_H) (c n : Nat) : mx_G r (t_Tb_hasFrame zz) 21 ls st h c n = (o_cast 5) r (mx_G r (t_Tb_hasFrame zz)) 21 ls st h c n := mx_G_eq (tm_Tb_hasFrame zz) r 21 ls st h c n
theorem st_Tb_hasFrame_24 (zz : Nat × Nat) (r : mx_T) (ls : mx_L) (st : List Value) (h : mx_H) (c n : Nat) : mx_G r (t_Tb_hasFrame zz) 24 ls st h c n = (o_astore 1 3) r (mx_G r (t_Tb_hasFrame zz)) 24 ls st h c n := mx_G_eq (tm_Tb_hasFrame zz) r 24 ls st h c n
theorem st_Tb_hasFrame_25 (zz : Nat × Nat) (r : mx_T) (ls : mx_L) (st : List Value) (h : mx_H) (c n : Nat) : mx_G r (t_Tb_hasFrame zz) 25 ls st h c n = (o_aload 1 3) r (mx_G r (t_Tb_hasFrame zz)) 25 ls st h c n := mx_G_eq (tm_Tb_hasFrame zz) r 25 ls st h c n
theorem st_Tb_hasFrame_26 (zz : Nat × Nat) (r : mx_T) (ls : mx_L) (st : List Value) (h : mx_H) (c n : Nat) : mx_G r (t_Tb_hasFrame zz) 26 ls st h c n = (o_get 5 0) r (mx_G r (t_Tb_hasFrame zz)) 26 ls st h c n := mx_G_eq (tm_Tb_hasFrame zz) r 26 ls st h c n
theorem st_Tb_hasFrame_29 (zz : Nat × Nat) (r : mx_T) (ls : mx_L) (st : List Value) (h : mx_H) (c n : Nat) : mx_G r (t_Tb_hasFrame zz) 29 ls st h c n = (o_if 42 (fun x => ¬ x = 0)) r (mx_G r (t_Tb_hasFrame zz)) 29 ls st h c n := mx_G_eq (tm_Tb_hasFrame zz) r 29 ls st h c n
theorem st_Tb_hasFrame_32 (zz : Nat × Nat) (r : mx_T) (ls : mx_L) (st : List Value) (h : mx_H) (c n : Nat) : mx_G r (t_Tb_hasFrame zz) 32 ls st h c n = (o_aload 1 3) r (mx_G r (t_Tb_hasFrame zz)) 32 ls st h c n := mx_G_eq (tm_Tb_hasFrame zz) r 32 ls st h c n
theorem st_Tb_hasFrame_33 (zz : Nat × Nat) (r : mx_T) (ls : mx_L) (st : List Value) (h : mx_H) (c n : Nat) : mx_G r (t_Tb_hasFrame zz) 33 ls st h c n = (o_get 5 1) r (mx_G r (t_Tb_hasFrame zz)) 33 ls st h c n := mx_G_eq (tm_Tb_hasFrame zz) r 33 ls st h c n
theorem st_Tb_hasFrame_36 (zz : Nat × Nat) (r : mx_T) (ls : mx_L) (st : List Value) (h : mx_H) (c n : Nat) : mx_G r (t_Tb_hasFrame zz) 36 ls st h c n = (o_iload 1 1) r (mx_G r (t_Tb_hasFrame zz)) 36 ls st h c n := mx_G_eq (tm_Tb_hasFrame zz) r 36 ls st h c n
theorem st_Tb_hasFrame_37 (zz : Nat × Nat) (r : mx_T) (ls : mx_L) (st : List Value) (h : mx_H) (c n : Nat) : mx_G r (t_Tb_hasFrame zz) 37 ls st h c n = (o_icmp 42 (fun x y => ¬ x = y)) r (mx_G r (t_Tb_hasFrame zz)) 37 ls st h c n := mx_G_eq (tm_Tb_hasFrame zz) r 37 ls st h c n
theorem st_Tb_hasFrame_40 (zz : Nat × Nat) (r : mx_T) (ls : mx_L) (st : List Value) (h : mx_H) (c n : Nat) : mx_G r (t_Tb_hasFrame zz) 40 ls st h c n = (o_push 1 (.int 1)) r (mx_G r (t_Tb_hasFrame zz)) 40 ls st h c n := mx_G_eq (tm_Tb_hasFrame zz) r 40 ls st h c n
theorem st_Tb_hasFrame_41 (zz : Nat × Nat) (r : mx_T) (ls : mx_L) (st : List Value) (h : mx_H) (c n : Nat) : mx_G r (t_Tb_hasFrame zz) 41 ls st h c n = (o_zret) r (mx_G r (t_Tb_hasFrame zz)) 41 ls st h c n := mx_G_eq (tm_Tb_hasFrame zz) r 41 ls st h c n
theorem st_Tb_hasFrame_42 (zz : Nat × Nat) (r : mx_T) (ls : mx_L) (st : List Value) (h : mx_H) (c n : Nat) : mx_G r (t_Tb_hasFrame zz) 42 ls st h c n = (o_iinc 2 1) r (mx_G r (t_Tb_hasFrame zz)) 42 ls st h c n := mx_G_eq (tm_Tb_hasFrame zz) r 42 ls st h c n
theorem st_Tb_hasFrame_45 (zz : Nat × Nat) (r : mx_T) (ls : mx_L) (st : List Value) (h : mx_H) (c n : Nat) : mx_G r (t_Tb_hasFrame zz) 45 ls st h c n = (o_goto 2) r (mx_G r (t_Tb_hasFrame zz)) 45 ls st h c n := mx_G_eq (tm_Tb_hasFrame zz) r 45 ls st h c n
theorem st_Tb_hasFrame_48 (zz : Nat × Nat) (r : mx_T) (ls : mx_L) (st : List Value) (h : mx_H) (c n : Nat) : mx_G r (t_Tb_hasFrame zz) 48 ls st h c n = (o_push 1 (.int 0)) r (mx_G r (t_Tb_hasFrame zz)) 48 ls st h c n := mx_G_eq (tm_Tb_hasFrame zz) r 48 ls st h c n
theorem st_Tb_hasFrame_49 (zz : Nat × Nat) (r : mx_T) (ls : mx_L) (st : List Value) (h : mx_H) (c n : Nat) : mx_G r (t_Tb_hasFrame zz) 49 ls st h c n = (o_zret) r (mx_G r (t_Tb_hasFrame zz)) 49 ls st h c n := mx_G_eq (tm_Tb_hasFrame zz) r 49 ls st h c n
theorem d_Tb_hasFramesAlone_0 : decode c_Tb_hasFramesAlone 0 = .ok (.iconst 0, 1) := by decide +kernel
theorem d_Tb_hasFramesAlone_1 : decode c_Tb_hasFramesAlone 1 = .ok (.istore_n 1, 1) := by decide +kernel
theorem d_Tb_hasFramesAlone_2 : decode c_Tb_hasFramesAlone 2 = .ok (.iload_n 1, 1) := by decide +kernel
theorem d_Tb_hasFramesAlone_3 : decode c_Tb_hasFramesAlone 3 = .ok (.aload_n 0, 1) := by decide +kernel
theorem d_Tb_hasFramesAlone_4 : decode c_Tb_hasFramesAlone 4 = .ok (.getfield 12, 3) := by decide +kernel
theorem d_Tb_hasFramesAlone_7 : decode c_Tb_hasFramesAlone 7 = .ok (.invokevirtual 38, 3) := by decide +kernel
theorem d_Tb_hasFramesAlone_10 : decode c_Tb_hasFramesAlone 10 = .ok (.if_icmp .ge 28, 3) := by decide +kernel
theorem d_Tb_hasFramesAlone_13 : decode c_Tb_hasFramesAlone 13 = .ok (.aload_n 0, 1) := by decide +kernel
theorem d_Tb_hasFramesAlone_14 : decode c_Tb_hasFramesAlone 14 = .ok (.getfield 12, 3) := by decide +kernel
theorem d_Tb_hasFramesAlone_17 : decode c_Tb_hasFramesAlone 17 = .ok (.iload_n 1, 1) := by decide +kernel
theorem d_Tb_hasFramesAlone_18 : decode c_Tb_hasFramesAlone 18 = .ok (.invokevirtual 42, 3) := by decide +kernel
theorem d_Tb_hasFramesAlone_21 : decode c_Tb_hasFramesAlone 21 = .ok (.checkcast 46, 3) := by decide +kernel
theorem d_Tb_hasFramesAlone_24 : decode c_Tb_hasFramesAlone 24 = .ok (.getfield 48, 3) := by decide +kernel
theorem d_Tb_hasFramesAlone_27 : decode c_Tb_hasFramesAlone 27 = .ok (.ifCond .eq 5, 3) := by decide +kernel
theorem d_Tb_hasFramesAlone_30 : decode c_Tb_hasFramesAlone 30 = .ok (.iconst 0, 1) := by decide +kernel
theorem d_Tb_hasFramesAlone_31 : decode c_Tb_hasFramesAlone 31 = .ok (.ireturn, 1) := by decide +kernel
theorem d_Tb_hasFramesAlone_32 : decode c_Tb_hasFramesAlone 32 = .ok (.iinc 1 1, 3) := by decide +kernel
theorem d_Tb_hasFramesAlone_35 : decode c_Tb_hasFramesAlone 35 = .ok (.goto (-33), 3) := by decide +kernel
theorem d_Tb_hasFramesAlone_38 : decode c_Tb_hasFramesAlone 38 = .ok (.iconst 1, 1) := by decide +kernel
theorem d_Tb_hasFramesAlone_39 : decode c_Tb_hasFramesAlone 39 = .ok (.ireturn, 1) := by decide +kernel
def t_Tb_hasFramesAlone (zz : Nat × Nat) : List (Nat × mx_O) := [(0, o_push 1 (.int 0)),
  (1, o_istore 1 1),
  (2, o_iload 1 1),
  (3, o_aload 1 0),
  (4, o_get 6 0),
  (7, o_call 0 0 1 0 0 (mx_rv 9) (S_Al_size zz)),
  (10, o_icmp 38 (fun x y => y ≤ x)),
  (13, o_aload 1 0),
  (14, o_get 6 0),
  (17, o_iload 1 1),
  (18, o_call 0 0 2 0 0 (mx_rv 9) (S_Al_get zz)),
  (21, o_cast 5),
  (24, o_get 5 0),
  (27, o_if 32 (fun x => x = 0)),
  (30, o_push 1 (.int 0)),
  (31, o_zret),
  (32, o_iinc 1 1),
  (35, o_goto 2),
  (38, o_push 1 (.int 1)),
  (39, o_zret)]
set_option maxRecDepth 100000 in
theorem tm_Tb_hasFramesAlone (zz : Nat × Nat) : mx_All (fun _ o => mx_Mono o) (t_Tb_hasFramesAlone zz) := by
  refine mx_all_cons (mo_st) ?_
  refine mx_all_cons (mo_st) ?_
  refine mx_all_cons (mo_st) ?_
  refine mx_all_cons (mo_st) ?_
  refine mx_all_cons (mo_st) ?_
  refine mx_all_cons (mo_call (sm_Al_size zz)) ?_
  refine mx_all_cons (mo_br) ?_
  refine mx_all_cons (mo_st) ?_
  refine mx_all_cons (mo_st) ?_
  refine mx_all_cons (mo_st) ?_
  refine mx_all_cons (mo_call (sm_Al_get zz)) ?_
  refine mx_all_cons (mo_sc) ?_
  refine mx_all_cons (mo_st) ?_
  refine mx_all_cons (mo_br) ?_
  refine mx_all_cons (mo_st) ?_
  refine mx_all_cons (mo_zret) ?_
  refine mx_all_cons (mo_st) ?_
  refine mx_all_cons (mo_st) ?_
  refine mx_all_cons (mo_st) ?_
  refine mx_all_cons (mo_zret) ?_
  exact mx_all_nil
def S_Tb_hasFramesAlone (zz : Nat × Nat) : mx_Sp := mx_S 2 0 0 (t_Tb_hasFramesAlone zz)
theorem sm_Tb_hasFramesAlone (zz : Nat × Nat) : mx_SMono (S_Tb_hasFramesAlone zz) := mx_S_mono (tm_Tb_hasFramesAlone zz)
abbrev rm_Tb_hasFramesAlone : Room := { frames := 3, cells := 0, slots := 0, locals := 64 }
set_option maxHeartbeats 4000000 in
set_option maxRecDepth 100000 in
theorem m_Tb_hasFramesAlone (l : Launch) (zz : Nat × Nat) : mx_Met l y_Tb_hasFramesAlone (wsOf y_Tb_hasFramesAlone c_Tb_hasFramesAlone 2 (some .boolean)) rm_Tb_hasFramesAlone wcl (mx_Z zz) 0 0 (S_Tb_hasFramesAlone zz) := by
  refine mx_met (cc := c_Tb_hasFramesAlone) (ret := (some .boolean)) (by decide) rfl ?_
  intro p e s m args below meth c D A Post X hz hr hlk hnm
  have hm : ∀ w ∈ mw, w.before args s = true := fun w h => X.1.2.2.2.2 w (List.mem_cons_of_mem _ h)
  refine mx_all_cons (ok_push (fun kk => lv_iconst X.1.1 X.1.2.1 d_Tb_hasFramesAlone_0 (by decide) kk)) ?_
  refine mx_all_cons (ok_istore (fun hl kk => lv_istore_n X.1.1 X.1.2.1 d_Tb_hasFramesAlone_1 rfl hl (by decide) rfl kk)) ?_
  refine mx_all_cons (ok_iload (fun hl kk => lv_iload_n X.1.1 X.1.2.1 d_Tb_hasFramesAlone_2 rfl hl kk)) ?_
  refine mx_all_cons (ok_aload (fun hl kk => lv_aload_n X.1.1 X.1.2.1 d_Tb_hasFramesAlone_3 rfl hl kk) (fun hl kk => lv_aload_nN X.1.1 X.1.2.1 d_Tb_hasFramesAlone_3 rfl hl kk)) ?_
  refine mx_all_cons (ok_get (C := "HeaderSchedule$Table") (T := T_Tb) (N := 1) X (mw_up in_Tb) rfl 0 (by decide) (hm _ w101) (fun _ h9 => h9) d_Tb_hasFramesAlone_4) ?_
  refine mx_all_cons (ok_callV (C := "java/util/ArrayList") (T := T_Al) (N := 3) X (mx_Zok_Z zz) hz ⟨(Nat.le_of_ble_eq_true rfl), (Nat.le_of_ble_eq_true rfl)⟩ (m_Al_size l zz) ⟨mx_cwB 0 hm w199 w497 w36 rfl rfl (by decide +kernel) ⟨(Nat.le_of_ble_eq_true rfl), (Nat.le_of_ble_eq_true rfl)⟩, (hm _ w197), hm _ w198⟩ rfl d_Tb_hasFramesAlone_7) ?_
  refine mx_all_cons (ok_icmp (fun kt kf => lv_icmp_ge X.1.1 X.1.2.1 d_Tb_hasFramesAlone_10 (by decide) kt kf)) ?_
  refine mx_all_cons (ok_aload (fun hl kk => lv_aload_n X.1.1 X.1.2.1 d_Tb_hasFramesAlone_13 rfl hl kk) (fun hl kk => lv_aload_nN X.1.1 X.1.2.1 d_Tb_hasFramesAlone_13 rfl hl kk)) ?_
  refine mx_all_cons (ok_get (C := "HeaderSchedule$Table") (T := T_Tb) (N := 1) X (mw_up in_Tb) rfl 0 (by decide) (hm _ w101) (fun _ h9 => h9) d_Tb_hasFramesAlone_14) ?_
  refine mx_all_cons (ok_iload (fun hl kk => lv_iload_n X.1.1 X.1.2.1 d_Tb_hasFramesAlone_17 rfl hl kk)) ?_
  refine mx_all_cons (ok_callV (C := "java/util/ArrayList") (T := T_Al) (N := 3) X (mx_Zok_Z zz) hz ⟨(Nat.le_of_ble_eq_true rfl), (Nat.le_of_ble_eq_true rfl)⟩ (m_Al_get l zz) ⟨mx_cwB 1 hm w326 w498 w36 rfl rfl (by decide +kernel) ⟨(Nat.le_of_ble_eq_true rfl), (Nat.le_of_ble_eq_true rfl)⟩, (hm _ w324), hm _ w325⟩ rfl d_Tb_hasFramesAlone_18) ?_
  refine mx_all_cons (ok_cast (C := "HeaderSchedule$Entry") (T := T_En) (N := 3) X rfl (hm _ w499) d_Tb_hasFramesAlone_21) ?_
  refine mx_all_cons (ok_get (C := "HeaderSchedule$Entry") (T := T_En) (N := 3) X (mw_up in_En) rfl 0 (by decide) (hm _ w467) (fun _ h9 => h9) d_Tb_hasFramesAlone_24) ?_
  refine mx_all_cons (ok_if (fun kt kf => lv_if_eq X.1.1 X.1.2.1 d_Tb_hasFramesAlone_27 (by decide) kt kf)) ?_
  refine mx_all_cons (ok_push (fun kk => lv_iconst X.1.1 X.1.2.1 d_Tb_hasFramesAlone_30 (by decide) kk)) ?_
  refine mx_all_cons (ok_zret X hr hlk d_Tb_hasFramesAlone_31) ?_
  refine mx_all_cons (ok_iinc X (by decide) (by decide) d_Tb_hasFramesAlone_32) ?_
  refine mx_all_cons (ok_goto X d_Tb_hasFramesAlone_35 (by decide)) ?_
  refine mx_all_cons (ok_push (fun kk => lv_iconst X.1.1 X.1.2.1 d_Tb_hasFramesAlone_38 (by decide) kk)) ?_
  refine mx_all_cons (ok_zret X hr hlk d_Tb_hasFramesAlone_39) ?_
  exact mx_all_nil
theorem st_Tb_hasFramesAlone_0 (zz : Nat × Nat) (r : mx_T) (ls : mx_L) (st : List Value) (h : mx_H) (c n : Nat) : mx_G r (t_Tb_hasFramesAlone zz) 0 ls st h c n = (o_push 1 (.int 0)) r (mx_G r (t_Tb_hasFramesAlone zz)) 0 ls st h c n := mx_G_eq (tm_Tb_hasFramesAlone zz) r 0 ls st h c n
theorem st_Tb_hasFramesAlone_1 (zz : Nat × Nat) (r : mx_T) (ls : mx_L) (st : List Value) (h : mx_H) (c n : Nat) : mx_G r (t_Tb_hasFramesAlone zz) 1 ls st h c n = (o_istore 1 1) r (mx_G r (t_Tb_hasFramesAlone zz)) 1 ls st h c n := mx_G_eq (tm_Tb_hasFramesAlone zz) r 1 ls st h c n
theorem st_Tb_hasFramesAlone_2 (zz : Nat × Nat) (r : mx_T) (ls : mx_L) (st : List Value) (h : mx_H) (c n : Nat) : mx_G r (t_Tb_hasFramesAlone zz) 2 ls st h c n = (o_iload 1 1) r (mx_G r (t_Tb_hasFramesAlone zz)) 2 ls st h c n := mx_G_eq (tm_Tb_hasFramesAlone zz) r 2 ls st h c n
theorem st_Tb_hasFramesAlone_3 (zz : Nat × Nat) (r : mx_T) (ls : mx_L) (st : List Value) (h : mx_H) (c n : Nat) : mx_G r (t_Tb_hasFramesAlone zz) 3 ls st h c n = (o_aload 1 0) r (mx_G r (t_Tb_hasFramesAlone zz)) 3 ls st h c n := mx_G_eq (tm_Tb_hasFramesAlone zz) r 3 ls st h c n
theorem st_Tb_hasFramesAlone_4 (zz : Nat × Nat) (r : mx_T) (ls : mx_L) (st : List Value) (h : mx_H) (c n : Nat) : mx_G r (t_Tb_hasFramesAlone zz) 4 ls st h c n = (o_get 6 0) r (mx_G r (t_Tb_hasFramesAlone zz)) 4 ls st h c n := mx_G_eq (tm_Tb_hasFramesAlone zz) r 4 ls st h c n
theorem st_Tb_hasFramesAlone_7 (zz : Nat × Nat) (r : mx_T) (ls : mx_L) (st : List Value) (h : mx_H) (c n : Nat) : mx_G r (t_Tb_hasFramesAlone zz) 7 ls st h c n = (o_call 0 0 1 0 0 (mx_rv 9) (S_Al_size zz)) r (mx_G r (t_Tb_hasFramesAlone zz)) 7 ls st h c n := mx_G_eq (tm_Tb_hasFramesAlone zz) r 7 ls st h c n
theorem st_Tb_hasFramesAlone_10 (zz : Nat × Nat) (r : mx_T) (ls : mx_L) (st : List Value) (h : mx_H) (c n : Nat) : mx_G r (t_Tb_hasFramesAlone zz) 10 ls st h c n = (o_icmp 38 (fun x y => y ≤ x)) r (mx_G r (t_Tb_hasFramesAlone zz)) 10 ls st h c n := mx_G_eq (tm_Tb_hasFramesAlone zz) r 10 ls st h c n
theorem st_Tb_hasFramesAlone_13 (zz : Nat × Nat) (r : mx_T) (ls : mx_L) (st : List Value) (h : mx_H) (c n : Nat) : mx_G r (t_Tb_hasFramesAlone zz) 13 ls st h c n = (o_aload 1 0) r (mx_G r (t_Tb_hasFramesAlone zz)) 13 ls st h c n := mx_G_eq (tm_Tb_hasFramesAlone zz) r 13 ls st h c n
theorem st_Tb_hasFramesAlone_14 (zz : Nat × Nat) (r : mx_T) (ls : mx_L) (st : List Value) (h : mx_H) (c n : Nat) : mx_G r (t_Tb_hasFramesAlone zz) 14 ls st h c n = (o_get 6 0) r (mx_G r (t_Tb_hasFramesAlone zz)) 14 ls st h c n := mx_G_eq (tm_Tb_hasFramesAlone zz) r 14 ls st h c n
theorem st_Tb_hasFramesAlone_17 (zz : Nat × Nat) (r : mx_T) (ls : mx_L) (st : List Value) (h : mx_H) (c n : Nat) : mx_G r (t_Tb_hasFramesAlone zz) 17 ls st h c n = (o_iload 1 1) r (mx_G r (t_Tb_hasFramesAlone zz)) 17 ls st h c n := mx_G_eq (tm_Tb_hasFramesAlone zz) r 17 ls st h c n
theorem st_Tb_hasFramesAlone_18 (zz : Nat × Nat) (r : mx_T) (ls : mx_L) (st : List Value) (h : mx_H) (c n : Nat) : mx_G r (t_Tb_hasFramesAlone zz) 18 ls st h c n = (o_call 0 0 2 0 0 (mx_rv 9) (S_Al_get zz)) r (mx_G r (t_Tb_hasFramesAlone zz)) 18 ls st h c n := mx_G_eq (tm_Tb_hasFramesAlone zz) r 18 ls st h c n
theorem st_Tb_hasFramesAlone_21 (zz : Nat × Nat) (r : mx_T) (ls : mx_L) (st : List Value) (h : mx_H) (c n : Nat) : mx_G r (t_Tb_hasFramesAlone zz) 21 ls st h c n = (o_cast 5) r (mx_G r (t_Tb_hasFramesAlone zz)) 21 ls st h c n := mx_G_eq (tm_Tb_hasFramesAlone zz) r 21 ls st h c n
theorem st_Tb_hasFramesAlone_24 (zz : Nat × Nat) (r : mx_T) (ls : mx_L) (st : List Value) (h : mx_H) (c n : Nat) : mx_G r (t_Tb_hasFramesAlone zz) 24 ls st h c n = (o_get 5 0) r (mx_G r (t_Tb_hasFramesAlone zz)) 24 ls st h c n := mx_G_eq (tm_Tb_hasFramesAlone zz) r 24 ls st h c n
theorem st_Tb_hasFramesAlone_27 (zz : Nat × Nat) (r : mx_T) (ls : mx_L) (st : List Value) (h : mx_H) (c n : Nat) : mx_G r (t_Tb_hasFramesAlone zz) 27 ls st h c n = (o_if 32 (fun x => x = 0)) r (mx_G r (t_Tb_hasFramesAlone zz)) 27 ls st h c n := mx_G_eq (tm_Tb_hasFramesAlone zz) r 27 ls st h c n
theorem st_Tb_hasFramesAlone_30 (zz : Nat × Nat) (r : mx_T) (ls : mx_L) (st : List Value) (h : mx_H) (c n : Nat) : mx_G r (t_Tb_hasFramesAlone zz) 30 ls st h c n = (o_push 1 (.int 0)) r (mx_G r (t_Tb_hasFramesAlone zz)) 30 ls st h c n := mx_G_eq (tm_Tb_hasFramesAlone zz) r 30 ls st h c n
theorem st_Tb_hasFramesAlone_31 (zz : Nat × Nat) (r : mx_T) (ls : mx_L) (st : List Value) (h : mx_H) (c n : Nat) : mx_G r (t_Tb_hasFramesAlone zz) 31 ls st h c n = (o_zret) r (mx_G r (t_Tb_hasFramesAlone zz)) 31 ls st h c n := mx_G_eq (tm_Tb_hasFramesAlone zz) r 31 ls st h c n
theorem st_Tb_hasFramesAlone_32 (zz : Nat × Nat) (r : mx_T) (ls : mx_L) (st : List Value) (h : mx_H) (c n : Nat) : mx_G r (t_Tb_hasFramesAlone zz) 32 ls st h c n = (o_iinc 1 1) r (mx_G r (t_Tb_hasFramesAlone zz)) 32 ls st h c n := mx_G_eq (tm_Tb_hasFramesAlone zz) r 32 ls st h c n
theorem st_Tb_hasFramesAlone_35 (zz : Nat × Nat) (r : mx_T) (ls : mx_L) (st : List Value) (h : mx_H) (c n : Nat) : mx_G r (t_Tb_hasFramesAlone zz) 35 ls st h c n = (o_goto 2) r (mx_G r (t_Tb_hasFramesAlone zz)) 35 ls st h c n := mx_G_eq (tm_Tb_hasFramesAlone zz) r 35 ls st h c n
theorem st_Tb_hasFramesAlone_38 (zz : Nat × Nat) (r : mx_T) (ls : mx_L) (st : List Value) (h : mx_H) (c n : Nat) : mx_G r (t_Tb_hasFramesAlone zz) 38 ls st h c n = (o_push 1 (.int 1)) r (mx_G r (t_Tb_hasFramesAlone zz)) 38 ls st h c n := mx_G_eq (tm_Tb_hasFramesAlone zz) r 38 ls st h c n
theorem st_Tb_hasFramesAlone_39 (zz : Nat × Nat) (r : mx_T) (ls : mx_L) (st : List Value) (h : mx_H) (c n : Nat) : mx_G r (t_Tb_hasFramesAlone zz) 39 ls st h c n = (o_zret) r (mx_G r (t_Tb_hasFramesAlone zz)) 39 ls st h c n := mx_G_eq (tm_Tb_hasFramesAlone zz) r 39 ls st h c n
theorem d_Tb_canResolve_0 : decode c_Tb_canResolve 0 = .ok (.aload_n 1, 1) := by decide +kernel
theorem d_Tb_canResolve_1 : decode c_Tb_canResolve 1 = .ok (.getfield 18, 3) := by decide +kernel
theorem d_Tb_canResolve_4 : decode c_Tb_canResolve 4 = .ok (.astore_n 2, 1) := by decide +kernel
theorem d_Tb_canResolve_5 : decode c_Tb_canResolve 5 = .ok (.aload_n 2, 1) := by decide +kernel
theorem d_Tb_canResolve_6 : decode c_Tb_canResolve 6 = .ok (.arraylength, 1) := by decide +kernel
theorem d_Tb_canResolve_7 : decode c_Tb_canResolve 7 = .ok (.istore_n 3, 1) := by decide +kernel
theorem d_Tb_canResolve_8 : decode c_Tb_canResolve 8 = .ok (.iconst 0, 1) := by decide +kernel
theorem d_Tb_canResolve_9 : decode c_Tb_canResolve 9 = .ok (.istore 4, 2) := by decide +kernel
theorem d_Tb_canResolve_11 : decode c_Tb_canResolve 11 = .ok (.iload 4, 2) := by decide +kernel
theorem d_Tb_canResolve_13 : decode c_Tb_canResolve 13 = .ok (.iload_n 3, 1) := by decide +kernel
theorem d_Tb_canResolve_14 : decode c_Tb_canResolve 14 = .ok (.if_icmp .ge 29, 3) := by decide +kernel
theorem d_Tb_canResolve_17 : decode c_Tb_canResolve 17 = .ok (.aload_n 2, 1) := by decide +kernel
theorem d_Tb_canResolve_18 : decode c_Tb_canResolve 18 = .ok (.iload 4, 2) := by decide +kernel
theorem d_Tb_canResolve_20 : decode c_Tb_canResolve 20 = .ok (.aaload, 1) := by decide +kernel
theorem d_Tb_canResolve_21 : decode c_Tb_canResolve 21 = .ok (.astore 5, 2) := by decide +kernel
theorem d_Tb_canResolve_23 : decode c_Tb_canResolve 23 = .ok (.aload_n 0, 1) := by decide +kernel
theorem d_Tb_canResolve_24 : decode c_Tb_canResolve 24 = .ok (.aload 5, 2) := by decide +kernel
theorem d_Tb_canResolve_26 : decode c_Tb_canResolve 26 = .ok (.getfield 24, 3) := by decide +kernel
theorem d_Tb_canResolve_29 : decode c_Tb_canResolve 29 = .ok (.invokevirtual 30, 3) := by decide +kernel
theorem d_Tb_canResolve_32 : decode c_Tb_canResolve 32 = .ok (.ifCond .ne 5, 3) := by decide +kernel
theorem d_Tb_canResolve_35 : decode c_Tb_canResolve 35 = .ok (.iconst 0, 1) := by decide +kernel
theorem d_Tb_canResolve_36 : decode c_Tb_canResolve 36 = .ok (.ireturn, 1) := by decide +kernel
theorem d_Tb_canResolve_37 : decode c_Tb_canResolve 37 = .ok (.iinc 4 1, 3) := by decide +kernel
theorem d_Tb_canResolve_40 : decode c_Tb_canResolve 40 = .ok (.goto (-29), 3) := by decide +kernel
theorem d_Tb_canResolve_43 : decode c_Tb_canResolve 43 = .ok (.aload_n 0, 1) := by decide +kernel
theorem d_Tb_canResolve_44 : decode c_Tb_canResolve 44 = .ok (.invokevirtual 34, 3) := by decide +kernel
theorem d_Tb_canResolve_47 : decode c_Tb_canResolve 47 = .ok (.ireturn, 1) := by decide +kernel
def t_Tb_canResolve (zz : Nat × Nat) : List (Nat × mx_O) := [(0, o_aload 1 1),
  (1, o_get 4 1),
  (4, o_astore 1 2),
  (5, o_aload 1 2),
  (6, o_alen),
  (7, o_istore 1 3),
  (8, o_push 1 (.int 0)),
  (9, o_istore 2 4),
  (11, o_iload 2 4),
  (13, o_iload 1 3),
  (14, o_icmp 43 (fun x y => y ≤ x)),
  (17, o_aload 1 2),
  (18, o_iload 2 4),
  (20, o_aald),
  (21, o_astore 2 5),
  (23, o_aload 1 0),
  (24, o_aload 2 5),
  (26, o_get 1 0),
  (29, o_call 0 0 2 0 0 (mx_rv 6) (S_Tb_hasFrame zz)),
  (32, o_if 37 (fun x => ¬ x = 0)),
  (35, o_push 1 (.int 0)),
  (36, o_zret),
  (37, o_iinc 4 1),
  (40, o_goto 11),
  (43, o_aload 1 0),
  (44, o_call 0 0 1 0 0 (mx_rv 6) (S_Tb_hasFramesAlone zz)),
  (47, o_zret)]
set_option maxRecDepth 100000 in
theorem tm_Tb_canResolve (zz : Nat × Nat) : mx_All (fun _ o => mx_Mono o) (t_Tb_canResolve zz) := by
  refine mx_all_cons (mo_st) ?_
  refine mx_all_cons (mo_st) ?_
  refine mx_all_cons (mo_st) ?_
  refine mx_all_cons (mo_st) ?_
  refine mx_all_cons (mo_st) ?_
  refine mx_all_cons (mo_st) ?_
  refine mx_all_cons (mo_st) ?_
  refine mx_all_cons (mo_st) ?_
  refine mx_all_cons (mo_st) ?_
  refine mx_all_cons (mo_st) ?_
  refine mx_all_cons (mo_br) ?_
  refine mx_all_cons (mo_st) ?_
  refine mx_all_cons (mo_st) ?_
  refine mx_all_cons (mo_sc) ?_
  refine mx_all_cons (mo_st) ?_
  refine mx_all_cons (mo_st) ?_
  refine mx_all_cons (mo_st) ?_
  refine mx_all_cons (mo_st) ?_
  refine mx_all_cons (mo_call (sm_Tb_hasFrame zz)) ?_
  refine mx_all_cons (mo_br) ?_
  refine mx_all_cons (mo_st) ?_
  refine mx_all_cons (mo_zret) ?_
  refine mx_all_cons (mo_st) ?_
  refine mx_all_cons (mo_st) ?_
  refine mx_all_cons (mo_st) ?_
  refine mx_all_cons (mo_call (sm_Tb_hasFramesAlone zz)) ?_
  refine mx_all_cons (mo_zret) ?_
  exact mx_all_nil
def S_Tb_canResolve (zz : Nat × Nat) : mx_Sp := mx_S 6 0 0 (t_Tb_canResolve zz)
theorem sm_Tb_canResolve (zz : Nat × Nat) : mx_SMono (S_Tb_canResolve zz) := mx_S_mono (tm_Tb_canResolve zz)
abbrev rm_Tb_canResolve : Room := { frames := 4, cells := 0, slots := 0, locals := 87 }
set_option maxHeartbeats 4000000 in
set_option maxRecDepth 100000 in
theorem m_Tb_canResolve (l : Launch) (zz : Nat × Nat) : mx_Met l y_Tb_canResolve (wsOf y_Tb_canResolve c_Tb_canResolve 6 (some .boolean)) rm_Tb_canResolve wcl (mx_Z zz) 0 0 (S_Tb_canResolve zz) := by
  refine mx_met (cc := c_Tb_canResolve) (ret := (some .boolean)) (by decide) rfl ?_
  intro p e s m args below meth c D A Post X hz hr hlk hnm
  have hm : ∀ w ∈ mw, w.before args s = true := fun w h => X.1.2.2.2.2 w (List.mem_cons_of_mem _ h)
  refine mx_all_cons (ok_aload (fun hl kk => lv_aload_n X.1.1 X.1.2.1 d_Tb_canResolve_0 rfl hl kk) (fun hl kk => lv_aload_nN X.1.1 X.1.2.1 d_Tb_canResolve_0 rfl hl kk)) ?_
  refine mx_all_cons (ok_get (C := "HeaderSchedule$Event") (T := T_Ev) (N := 3) X (mw_up in_Ev) rfl 1 (by decide) (hm _ w437) (fun _ h9 => h9) d_Tb_canResolve_1) ?_
  refine mx_all_cons (ok_astore (fun hl kk => lv_astore_n X.1.1 X.1.2.1 d_Tb_canResolve_4 rfl hl (by decide) rfl kk) (fun hl kk => lv_astore_nN X.1.1 X.1.2.1 d_Tb_canResolve_4 rfl hl (by decide) rfl kk)) ?_
  refine mx_all_cons (ok_aload (fun hl kk => lv_aload_n X.1.1 X.1.2.1 d_Tb_canResolve_5 rfl hl kk) (fun hl kk => lv_aload_nN X.1.1 X.1.2.1 d_Tb_canResolve_5 rfl hl kk)) ?_
  refine mx_all_cons (ok_alen X d_Tb_canResolve_6) ?_
  refine mx_all_cons (ok_istore (fun hl kk => lv_istore_n X.1.1 X.1.2.1 d_Tb_canResolve_7 rfl hl (by decide) rfl kk)) ?_
  refine mx_all_cons (ok_push (fun kk => lv_iconst X.1.1 X.1.2.1 d_Tb_canResolve_8 (by decide) kk)) ?_
  refine mx_all_cons (ok_istore (fun hl kk => lv_istore X.1.1 X.1.2.1 d_Tb_canResolve_9 hl (by decide) rfl kk)) ?_
  refine mx_all_cons (ok_iload (fun hl kk => lv_iload X.1.1 X.1.2.1 d_Tb_canResolve_11 hl kk)) ?_
  refine mx_all_cons (ok_iload (fun hl kk => lv_iload_n X.1.1 X.1.2.1 d_Tb_canResolve_13 rfl hl kk)) ?_
  refine mx_all_cons (ok_icmp (fun kt kf => lv_icmp_ge X.1.1 X.1.2.1 d_Tb_canResolve_14 (by decide) kt kf)) ?_
  refine mx_all_cons (ok_aload (fun hl kk => lv_aload_n X.1.1 X.1.2.1 d_Tb_canResolve_17 rfl hl kk) (fun hl kk => lv_aload_nN X.1.1 X.1.2.1 d_Tb_canResolve_17 rfl hl kk)) ?_
  refine mx_all_cons (ok_iload (fun hl kk => lv_iload X.1.1 X.1.2.1 d_Tb_canResolve_18 hl kk)) ?_
  refine mx_all_cons (ok_aald X d_Tb_canResolve_20) ?_
  refine mx_all_cons (ok_astore (fun hl kk => lv_astore X.1.1 X.1.2.1 d_Tb_canResolve_21 hl (by decide) rfl kk) (fun hl kk => lv_astoreN X.1.1 X.1.2.1 d_Tb_canResolve_21 hl (by decide) rfl kk)) ?_
  refine mx_all_cons (ok_aload (fun hl kk => lv_aload_n X.1.1 X.1.2.1 d_Tb_canResolve_23 rfl hl kk) (fun hl kk => lv_aload_nN X.1.1 X.1.2.1 d_Tb_canResolve_23 rfl hl kk)) ?_
  refine mx_all_cons (ok_aload (fun hl kk => lv_aload X.1.1 X.1.2.1 d_Tb_canResolve_24 hl kk) (fun hl kk => lv_aloadN X.1.1 X.1.2.1 d_Tb_canResolve_24 hl kk)) ?_
  refine mx_all_cons (ok_get (C := "HeaderSchedule$Frame") (T := T_Fr) (N := 8) X (mw_up in_Fr) rfl 0 (by decide) (hm _ w221) (fun _ h9 => h9) d_Tb_canResolve_26) ?_
  refine mx_all_cons (ok_callV (C := "HeaderSchedule$Table") (T := T_Tb) (N := 1) X (mx_Zok_Z zz) hz ⟨(Nat.le_of_ble_eq_true rfl), (Nat.le_of_ble_eq_true rfl)⟩ (m_Tb_hasFrame l zz) ⟨mx_cwB 1 hm w496 w493 w38 rfl rfl (by decide +kernel) ⟨(Nat.le_of_ble_eq_true rfl), (Nat.le_of_ble_eq_true rfl)⟩, (hm _ w494), hm _ w495⟩ rfl d_Tb_canResolve_29) ?_
  refine mx_all_cons (ok_if (fun kt kf => lv_if_ne X.1.1 X.1.2.1 d_Tb_canResolve_32 (by decide) kt (fun z => kf (fun g => g z)))) ?_
  refine mx_all_cons (ok_push (fun kk => lv_iconst X.1.1 X.1.2.1 d_Tb_canResolve_35 (by decide) kk)) ?_
  refine mx_all_cons (ok_zret X hr hlk d_Tb_canResolve_36) ?_
  refine mx_all_cons (ok_iinc X (by decide) (by decide) d_Tb_canResolve_37) ?_
  refine mx_all_cons (ok_goto X d_Tb_canResolve_40 (by decide)) ?_
  refine mx_all_cons (ok_aload (fun hl kk => lv_aload_n X.1.1 X.1.2.1 d_Tb_canResolve_43 rfl hl kk) (fun hl kk => lv_aload_nN X.1.1 X.1.2.1 d_Tb_canResolve_43 rfl hl kk)) ?_
  refine mx_all_cons (ok_callV (C := "HeaderSchedule$Table") (T := T_Tb) (N := 1) X (mx_Zok_Z zz) hz ⟨(Nat.le_of_ble_eq_true rfl), (Nat.le_of_ble_eq_true rfl)⟩ (m_Tb_hasFramesAlone l zz) ⟨mx_cwB 0 hm w503 w500 w38 rfl rfl (by decide +kernel) ⟨(Nat.le_of_ble_eq_true rfl), (Nat.le_of_ble_eq_true rfl)⟩, (hm _ w501), hm _ w502⟩ rfl d_Tb_canResolve_44) ?_
  refine mx_all_cons (ok_zret X hr hlk d_Tb_canResolve_47) ?_
  exact mx_all_nil
theorem st_Tb_canResolve_0 (zz : Nat × Nat) (r : mx_T) (ls : mx_L) (st : List Value) (h : mx_H) (c n : Nat) : mx_G r (t_Tb_canResolve zz) 0 ls st h c n = (o_aload 1 1) r (mx_G r (t_Tb_canResolve zz)) 0 ls st h c n := mx_G_eq (tm_Tb_canResolve zz) r 0 ls st h c n
theorem st_Tb_canResolve_1 (zz : Nat × Nat) (r : mx_T) (ls : mx_L) (st : List Value) (h : mx_H) (c n : Nat) : mx_G r (t_Tb_canResolve zz) 1 ls st h c n = (o_get 4 1) r (mx_G r (t_Tb_canResolve zz)) 1 ls st h c n := mx_G_eq (tm_Tb_canResolve zz) r 1 ls st h c n
theorem st_Tb_canResolve_4 (zz : Nat × Nat) (r : mx_T) (ls : mx_L) (st : List Value) (h : mx_H) (c n : Nat) : mx_G r (t_Tb_canResolve zz) 4 ls st h c n = (o_astore 1 2) r (mx_G r (t_Tb_canResolve zz)) 4 ls st h c n := mx_G_eq (tm_Tb_canResolve zz) r 4 ls st h c n
theorem st_Tb_canResolve_5 (zz : Nat × Nat) (r : mx_T) (ls : mx_L) (st : List Value) (h : mx_H) (c n : Nat) : mx_G r (t_Tb_canResolve zz) 5 ls st h c n = (o_aload 1 2) r (mx_G r (t_Tb_canResolve zz)) 5 ls st h c n := mx_G_eq (tm_Tb_canResolve zz) r 5 ls st h c n
theorem st_Tb_canResolve_6 (zz : Nat × Nat) (r : mx_T) (ls : mx_L) (st : List Value) (h : mx_H) (c n : Nat) : mx_G r (t_Tb_canResolve zz) 6 ls st h c n = (o_alen) r (mx_G r (t_Tb_canResolve zz)) 6 ls st h c n := mx_G_eq (tm_Tb_canResolve zz) r 6 ls st h c n
theorem st_Tb_canResolve_7 (zz : Nat × Nat) (r : mx_T) (ls : mx_L) (st : List Value) (h : mx_H) (c n : Nat) : mx_G r (t_Tb_canResolve zz) 7 ls st h c n = (o_istore 1 3) r (mx_G r (t_Tb_canResolve zz)) 7 ls st h c n := mx_G_eq (tm_Tb_canResolve zz) r 7 ls st h c n
theorem st_Tb_canResolve_8 (zz : Nat × Nat) (r : mx_T) (ls : mx_L) (st : List Value) (h : mx_H) (c n : Nat) : mx_G r (t_Tb_canResolve zz) 8 ls st h c n = (o_push 1 (.int 0)) r (mx_G r (t_Tb_canResolve zz)) 8 ls st h c n := mx_G_eq (tm_Tb_canResolve zz) r 8 ls st h c n
theorem st_Tb_canResolve_9 (zz : Nat × Nat) (r : mx_T) (ls : mx_L) (st : List Value) (h : mx_H) (c n : Nat) : mx_G r (t_Tb_canResolve zz) 9 ls st h c n = (o_istore 2 4) r (mx_G r (t_Tb_canResolve zz)) 9 ls st h c n := mx_G_eq (tm_Tb_canResolve zz) r 9 ls st h c n
theorem st_Tb_canResolve_11 (zz : Nat × Nat) (r : mx_T) (ls : mx_L) (st : List Value) (h : mx_H) (c n : Nat) : mx_G r (t_Tb_canResolve zz) 11 ls st h c n = (o_iload 2 4) r (mx_G r (t_Tb_canResolve zz)) 11 ls st h c n := mx_G_eq (tm_Tb_canResolve zz) r 11 ls st h c n
theorem st_Tb_canResolve_13 (zz : Nat × Nat) (r : mx_T) (ls : mx_L) (st : List Value) (h : mx_H) (c n : Nat) : mx_G r (t_Tb_canResolve zz) 13 ls st h c n = (o_iload 1 3) r (mx_G r (t_Tb_canResolve zz)) 13 ls st h c n := mx_G_eq (tm_Tb_canResolve zz) r 13 ls st h c n
theorem st_Tb_canResolve_14 (zz : Nat × Nat) (r : mx_T) (ls : mx_L) (st : List Value) (h : mx_H) (c n : Nat) : mx_G r (t_Tb_canResolve zz) 14 ls st h c n = (o_icmp 43 (fun x y => y ≤ x)) r (mx_G r (t_Tb_canResolve zz)) 14 ls st h c n := mx_G_eq (tm_Tb_canResolve zz) r 14 ls st h c n
theorem st_Tb_canResolve_17 (zz : Nat × Nat) (r : mx_T) (ls : mx_L) (st : List Value) (h : mx_H) (c n : Nat) : mx_G r (t_Tb_canResolve zz) 17 ls st h c n = (o_aload 1 2) r (mx_G r (t_Tb_canResolve zz)) 17 ls st h c n := mx_G_eq (tm_Tb_canResolve zz) r 17 ls st h c n
theorem st_Tb_canResolve_18 (zz : Nat × Nat) (r : mx_T) (ls : mx_L) (st : List Value) (h : mx_H) (c n : Nat) : mx_G r (t_Tb_canResolve zz) 18 ls st h c n = (o_iload 2 4) r (mx_G r (t_Tb_canResolve zz)) 18 ls st h c n := mx_G_eq (tm_Tb_canResolve zz) r 18 ls st h c n
theorem st_Tb_canResolve_20 (zz : Nat × Nat) (r : mx_T) (ls : mx_L) (st : List Value) (h : mx_H) (c n : Nat) : mx_G r (t_Tb_canResolve zz) 20 ls st h c n = (o_aald) r (mx_G r (t_Tb_canResolve zz)) 20 ls st h c n := mx_G_eq (tm_Tb_canResolve zz) r 20 ls st h c n
theorem st_Tb_canResolve_21 (zz : Nat × Nat) (r : mx_T) (ls : mx_L) (st : List Value) (h : mx_H) (c n : Nat) : mx_G r (t_Tb_canResolve zz) 21 ls st h c n = (o_astore 2 5) r (mx_G r (t_Tb_canResolve zz)) 21 ls st h c n := mx_G_eq (tm_Tb_canResolve zz) r 21 ls st h c n
theorem st_Tb_canResolve_23 (zz : Nat × Nat) (r : mx_T) (ls : mx_L) (st : List Value) (h : mx_H) (c n : Nat) : mx_G r (t_Tb_canResolve zz) 23 ls st h c n = (o_aload 1 0) r (mx_G r (t_Tb_canResolve zz)) 23 ls st h c n := mx_G_eq (tm_Tb_canResolve zz) r 23 ls st h c n
theorem st_Tb_canResolve_24 (zz : Nat × Nat) (r : mx_T) (ls : mx_L) (st : List Value) (h : mx_H) (c n : Nat) : mx_G r (t_Tb_canResolve zz) 24 ls st h c n = (o_aload 2 5) r (mx_G r (t_Tb_canResolve zz)) 24 ls st h c n := mx_G_eq (tm_Tb_canResolve zz) r 24 ls st h c n
theorem st_Tb_canResolve_26 (zz : Nat × Nat) (r : mx_T) (ls : mx_L) (st : List Value) (h : mx_H) (c n : Nat) : mx_G r (t_Tb_canResolve zz) 26 ls st h c n = (o_get 1 0) r (mx_G r (t_Tb_canResolve zz)) 26 ls st h c n := mx_G_eq (tm_Tb_canResolve zz) r 26 ls st h c n
theorem st_Tb_canResolve_29 (zz : Nat × Nat) (r : mx_T) (ls : mx_L) (st : List Value) (h : mx_H) (c n : Nat) : mx_G r (t_Tb_canResolve zz) 29 ls st h c n = (o_call 0 0 2 0 0 (mx_rv 6) (S_Tb_hasFrame zz)) r (mx_G r (t_Tb_canResolve zz)) 29 ls st h c n := mx_G_eq (tm_Tb_canResolve zz) r 29 ls st h c n
theorem st_Tb_canResolve_32 (zz : Nat × Nat) (r : mx_T) (ls : mx_L) (st : List Value) (h : mx_H) (c n : Nat) : mx_G r (t_Tb_canResolve zz) 32 ls st h c n = (o_if 37 (fun x => ¬ x = 0)) r (mx_G r (t_Tb_canResolve zz)) 32 ls st h c n := mx_G_eq (tm_Tb_canResolve zz) r 32 ls st h c n
theorem st_Tb_canResolve_35 (zz : Nat × Nat) (r : mx_T) (ls : mx_L) (st : List Value) (h : mx_H) (c n : Nat) : mx_G r (t_Tb_canResolve zz) 35 ls st h c n = (o_push 1 (.int 0)) r (mx_G r (t_Tb_canResolve zz)) 35 ls st h c n := mx_G_eq (tm_Tb_canResolve zz) r 35 ls st h c n
theorem st_Tb_canResolve_36 (zz : Nat × Nat) (r : mx_T) (ls : mx_L) (st : List Value) (h : mx_H) (c n : Nat) : mx_G r (t_Tb_canResolve zz) 36 ls st h c n = (o_zret) r (mx_G r (t_Tb_canResolve zz)) 36 ls st h c n := mx_G_eq (tm_Tb_canResolve zz) r 36 ls st h c n
theorem st_Tb_canResolve_37 (zz : Nat × Nat) (r : mx_T) (ls : mx_L) (st : List Value) (h : mx_H) (c n : Nat) : mx_G r (t_Tb_canResolve zz) 37 ls st h c n = (o_iinc 4 1) r (mx_G r (t_Tb_canResolve zz)) 37 ls st h c n := mx_G_eq (tm_Tb_canResolve zz) r 37 ls st h c n
theorem st_Tb_canResolve_40 (zz : Nat × Nat) (r : mx_T) (ls : mx_L) (st : List Value) (h : mx_H) (c n : Nat) : mx_G r (t_Tb_canResolve zz) 40 ls st h c n = (o_goto 11) r (mx_G r (t_Tb_canResolve zz)) 40 ls st h c n := mx_G_eq (tm_Tb_canResolve zz) r 40 ls st h c n
theorem st_Tb_canResolve_43 (zz : Nat × Nat) (r : mx_T) (ls : mx_L) (st : List Value) (h : mx_H) (c n : Nat) : mx_G r (t_Tb_canResolve zz) 43 ls st h c n = (o_aload 1 0) r (mx_G r (t_Tb_canResolve zz)) 43 ls st h c n := mx_G_eq (tm_Tb_canResolve zz) r 43 ls st h c n
theorem st_Tb_canResolve_44 (zz : Nat × Nat) (r : mx_T) (ls : mx_L) (st : List Value) (h : mx_H) (c n : Nat) : mx_G r (t_Tb_canResolve zz) 44 ls st h c n = (o_call 0 0 1 0 0 (mx_rv 6) (S_Tb_hasFramesAlone zz)) r (mx_G r (t_Tb_canResolve zz)) 44 ls st h c n := mx_G_eq (tm_Tb_canResolve zz) r 44 ls st h c n
theorem st_Tb_canResolve_47 (zz : Nat × Nat) (r : mx_T) (ls : mx_L) (st : List Value) (h : mx_H) (c n : Nat) : mx_G r (t_Tb_canResolve zz) 47 ls st h c n = (o_zret) r (mx_G r (t_Tb_canResolve zz)) 47 ls st h c n := mx_G_eq (tm_Tb_canResolve zz) r 47 ls st h c n
theorem d_Hs_canResolveAll_0 : decode c_Hs_canResolveAll 0 = .ok (.iconst 0, 1) := by decide +kernel
theorem d_Hs_canResolveAll_1 : decode c_Hs_canResolveAll 1 = .ok (.istore_n 1, 1) := by decide +kernel
theorem d_Hs_canResolveAll_2 : decode c_Hs_canResolveAll 2 = .ok (.iload_n 1, 1) := by decide +kernel
theorem d_Hs_canResolveAll_3 : decode c_Hs_canResolveAll 3 = .ok (.aload_n 0, 1) := by decide +kernel
theorem d_Hs_canResolveAll_4 : decode c_Hs_canResolveAll 4 = .ok (.getfield 22, 3) := by decide +kernel
theorem d_Hs_canResolveAll_7 : decode c_Hs_canResolveAll 7 = .ok (.invokevirtual 58, 3) := by decide +kernel
theorem d_Hs_canResolveAll_10 : decode c_Hs_canResolveAll 10 = .ok (.if_icmp .ge 42, 3) := by decide +kernel
theorem d_Hs_canResolveAll_13 : decode c_Hs_canResolveAll 13 = .ok (.aload_n 0, 1) := by decide +kernel
theorem d_Hs_canResolveAll_14 : decode c_Hs_canResolveAll 14 = .ok (.getfield 22, 3) := by decide +kernel
theorem d_Hs_canResolveAll_17 : decode c_Hs_canResolveAll 17 = .ok (.iload_n 1, 1) := by decide +kernel
theorem d_Hs_canResolveAll_18 : decode c_Hs_canResolveAll 18 = .ok (.invokevirtual 213, 3) := by decide +kernel
theorem d_Hs_canResolveAll_21 : decode c_Hs_canResolveAll 21 = .ok (.checkcast 135, 3) := by decide +kernel
theorem d_Hs_canResolveAll_24 : decode c_Hs_canResolveAll 24 = .ok (.astore_n 2, 1) := by decide +kernel
theorem d_Hs_canResolveAll_25 : decode c_Hs_canResolveAll 25 = .ok (.aload_n 0, 1) := by decide +kernel
theorem d_Hs_canResolveAll_26 : decode c_Hs_canResolveAll 26 = .ok (.getfield 32, 3) := by decide +kernel
theorem d_Hs_canResolveAll_29 : decode c_Hs_canResolveAll 29 = .ok (.getfield 146, 3) := by decide +kernel
theorem d_Hs_canResolveAll_32 : decode c_Hs_canResolveAll 32 = .ok (.aload_n 2, 1) := by decide +kernel
theorem d_Hs_canResolveAll_33 : decode c_Hs_canResolveAll 33 = .ok (.getfield 226, 3) := by decide +kernel
theorem d_Hs_canResolveAll_36 : decode c_Hs_canResolveAll 36 = .ok (.aaload, 1) := by decide +kernel
theorem d_Hs_canResolveAll_37 : decode c_Hs_canResolveAll 37 = .ok (.aload_n 2, 1) := by decide +kernel
theorem d_Hs_canResolveAll_38 : decode c_Hs_canResolveAll 38 = .ok (.invokevirtual 229, 3) := by decide +kernel
theorem d_Hs_canResolveAll_41 : decode c_Hs_canResolveAll 41 = .ok (.ifCond .ne 5, 3) := by decide +kernel
theorem d_Hs_canResolveAll_44 : decode c_Hs_canResolveAll 44 = .ok (.iconst 0, 1) := by decide +kernel
theorem d_Hs_canResolveAll_45 : decode c_Hs_canResolveAll 45 = .ok (.ireturn, 1) := by decide +kernel
theorem d_Hs_canResolveAll_46 : decode c_Hs_canResolveAll 46 = .ok (.iinc 1 1, 3) := by decide +kernel
theorem d_Hs_canResolveAll_49 : decode c_Hs_canResolveAll 49 = .ok (.goto (-47), 3) := by decide +kernel
theorem d_Hs_canResolveAll_52 : decode c_Hs_canResolveAll 52 = .ok (.iconst 1, 1) := by decide +kernel
theorem d_Hs_canResolveAll_53 : decode c_Hs_canResolveAll 53 = .ok (.ireturn, 1) := by decide +kernel
def t_Hs_canResolveAll (zz : Nat × Nat) : List (Nat × mx_O) := [(0, o_push 1 (.int 0)),
  (1, o_istore 1 1),
  (2, o_iload 1 1),
  (3, o_aload 1 0),
  (4, o_get 0 3),
  (7, o_call 0 0 1 0 0 (mx_rv 9) (S_Al_size zz)),
  (10, o_icmp 52 (fun x y => y ≤ x)),
  (13, o_aload 1 0),
  (14, o_get 0 3),
  (17, o_iload 1 1),
  (18, o_call 0 0 2 0 0 (mx_rv 9) (S_Al_get zz)),
  (21, o_cast 4),
  (24, o_astore 1 2),
  (25, o_aload 1 0),
  (26, o_get 0 5),
  (29, o_get 7 0),
  (32, o_aload 1 2),
  (33, o_get 4 2),
  (36, o_aald),
  (37, o_aload 1 2),
  (38, o_call 0 0 2 0 0 (mx_rv 6) (S_Tb_canResolve zz)),
  (41, o_if 46 (fun x => ¬ x = 0)),
  (44, o_push 1 (.int 0)),
  (45, o_zret),
  (46, o_iinc 1 1),
  (49, o_goto 2),
  (52, o_push 1 (.int 1)),
  (53, o_zret)]
set_option maxRecDepth 100000 in
theorem tm_Hs_canResolveAll (zz : Nat × Nat) : mx_All (fun _ o => mx_Mono o) (t_Hs_canResolveAll zz) := by
  refine mx_all_cons (mo_st) ?_
  refine mx_all_cons (mo_st) ?_
  refine mx_all_cons (mo_st) ?_
  refine mx_all_cons (mo_st) ?_
  refine mx_all_cons (mo_st) ?_
  refine mx_all_cons (mo_call (sm_Al_size zz)) ?_
  refine mx_all_cons (mo_br) ?_
  refine mx_all_cons (mo_st) ?_
  refine mx_all_cons (mo_st) ?_
  refine mx_all_cons (mo_st) ?_
  refine mx_all_cons (mo_call (sm_Al_get zz)) ?_
  refine mx_all_cons (mo_sc) ?_
  refine mx_all_cons (mo_st) ?_
  refine mx_all_cons (mo_st) ?_
  refine mx_all_cons (mo_st) ?_
  refine mx_all_cons (mo_st) ?_
  refine mx_all_cons (mo_st) ?_
  refine mx_all_cons (mo_st) ?_
  refine mx_all_cons (mo_sc) ?_
  refine mx_all_cons (mo_st) ?_
  refine mx_all_cons (mo_call (sm_Tb_canResolve zz)) ?_
  refine mx_all_cons (mo_br) ?_
  refine mx_all_cons (mo_st) ?_
  refine mx_all_cons (mo_zret) ?_
  refine mx_all_cons (mo_st) ?_
  refine mx_all_cons (mo_st) ?_
  refine mx_all_cons (mo_st) ?_
  refine mx_all_cons (mo_zret) ?_
  exact mx_all_nil
def S_Hs_canResolveAll (zz : Nat × Nat) : mx_Sp := mx_S 3 0 0 (t_Hs_canResolveAll zz)
theorem sm_Hs_canResolveAll (zz : Nat × Nat) : mx_SMono (S_Hs_canResolveAll zz) := mx_S_mono (tm_Hs_canResolveAll zz)
abbrev rm_Hs_canResolveAll : Room := { frames := 5, cells := 0, slots := 0, locals := 112 }
set_option maxHeartbeats 4000000 in
set_option maxRecDepth 100000 in
theorem m_Hs_canResolveAll (l : Launch) (zz : Nat × Nat) : mx_Met l y_Hs_canResolveAll (wsOf y_Hs_canResolveAll c_Hs_canResolveAll 3 (some .boolean)) rm_Hs_canResolveAll wcl (mx_Z zz) 0 0 (S_Hs_canResolveAll zz) := by
  refine mx_met (cc := c_Hs_canResolveAll) (ret := (some .boolean)) (by decide) rfl ?_
  intro p e s m args below meth c D A Post X hz hr hlk hnm
  have hm : ∀ w ∈ mw, w.before args s = true := fun w h => X.1.2.2.2.2 w (List.mem_cons_of_mem _ h)
  refine mx_all_cons (ok_push (fun kk => lv_iconst X.1.1 X.1.2.1 d_Hs_canResolveAll_0 (by decide) kk)) ?_
  refine mx_all_cons (ok_istore (fun hl kk => lv_istore_n X.1.1 X.1.2.1 d_Hs_canResolveAll_1 rfl hl (by decide) rfl kk)) ?_
  refine mx_all_cons (ok_iload (fun hl kk => lv_iload_n X.1.1 X.1.2.1 d_Hs_canResolveAll_2 rfl hl kk)) ?_
  refine mx_all_cons (ok_aload (fun hl kk => lv_aload_n X.1.1 X.1.2.1 d_Hs_canResolveAll_3 rfl hl kk) (fun hl kk => lv_aload_nN X.1.1 X.1.2.1 d_Hs_canResolveAll_3 rfl hl kk)) ?_
  refine mx_all_cons (ok_get (C := "HeaderSchedule") (T := T_Hs) (N := 11) X (mw_up in_Hs) rfl 3 (by decide) (hm _ w161) (fun _ h9 => h9) d_Hs_canResolveAll_4) ?_
  refine mx_all_cons (ok_callV (C := "java/util/ArrayList") (T := T_Al) (N := 3) X (mx_Zok_Z zz) hz ⟨(Nat.le_of_ble_eq_true rfl), (Nat.le_of_ble_eq_true rfl)⟩ (m_Al_size l zz) ⟨mx_cwB 0 hm w199 w196 w36 rfl rfl (by decide +kernel) ⟨(Nat.le_of_ble_eq_true rfl), (Nat.le_of_ble_eq_true rfl)⟩, (hm _ w197), hm _ w198⟩ rfl d_Hs_canResolveAll_7) ?_
  refine mx_all_cons (ok_icmp (fun kt kf => lv_icmp_ge X.1.1 X.1.2.1 d_Hs_canResolveAll_10 (by decide) kt kf)) ?_
  refine mx_all_cons (ok_aload (fun hl kk => lv_aload_n X.1.1 X.1.2.1 d_Hs_canResolveAll_13 rfl hl kk) (fun hl kk => lv_aload_nN X.1.1 X.1.2.1 d_Hs_canResolveAll_13 rfl hl kk)) ?_
  refine mx_all_cons (ok_get (C := "HeaderSchedule") (T := T_Hs) (N := 11) X (mw_up in_Hs) rfl 3 (by decide) (hm _ w161) (fun _ h9 => h9) d_Hs_canResolveAll_14) ?_
  refine mx_all_cons (ok_iload (fun hl kk => lv_iload_n X.1.1 X.1.2.1 d_Hs_canResolveAll_17 rfl hl kk)) ?_
  refine mx_all_cons (ok_callV (C := "java/util/ArrayList") (T := T_Al) (N := 3) X (mx_Zok_Z zz) hz ⟨(Nat.le_of_ble_eq_true rfl), (Nat.le_of_ble_eq_true rfl)⟩ (m_Al_get l zz) ⟨mx_cwB 1 hm w326 w323 w36 rfl rfl (by decide +kernel) ⟨(Nat.le_of_ble_eq_true rfl), (Nat.le_of_ble_eq_true rfl)⟩, (hm _ w324), hm _ w325⟩ rfl d_Hs_canResolveAll_18) ?_
  refine mx_all_cons (ok_cast (C := "HeaderSchedule$Event") (T := T_Ev) (N := 3) X rfl (hm _ w428) d_Hs_canResolveAll_21) ?_
  refine mx_all_cons (ok_astore (fun hl kk => lv_astore_n X.1.1 X.1.2.1 d_Hs_canResolveAll_24 rfl hl (by decide) rfl kk) (fun hl kk => lv_astore_nN X.1.1 X.1.2.1 d_Hs_canResolveAll_24 rfl hl (by decide) rfl kk)) ?_
  refine mx_all_cons (ok_aload (fun hl kk => lv_aload_n X.1.1 X.1.2.1 d_Hs_canResolveAll_25 rfl hl kk) (fun hl kk => lv_aload_nN X.1.1 X.1.2.1 d_Hs_canResolveAll_25 rfl hl kk)) ?_
  refine mx_all_cons (ok_get (C := "HeaderSchedule") (T := T_Hs) (N := 11) X (mw_up in_Hs) rfl 5 (by decide) (hm _ w163) (fun _ h9 => h9) d_Hs_canResolveAll_26) ?_
  refine mx_all_cons (ok_get (C := "HeaderSchedule$Schedule") (T := T_Sc) (N := 8) X (mw_up in_Sc) rfl 0 (by decide) (hm _ w109) (fun _ h9 => h9) d_Hs_canResolveAll_29) ?_
  refine mx_all_cons (ok_aload (fun hl kk => lv_aload_n X.1.1 X.1.2.1 d_Hs_canResolveAll_32 rfl hl kk) (fun hl kk => lv_aload_nN X.1.1 X.1.2.1 d_Hs_canResolveAll_32 rfl hl kk)) ?_
  refine mx_all_cons (ok_get (C := "HeaderSchedule$Event") (T := T_Ev) (N := 3) X (mw_up in_Ev) rfl 2 (by decide) (hm _ w439) (fun _ h9 => h9) d_Hs_canResolveAll_33) ?_
  refine mx_all_cons (ok_aald X d_Hs_canResolveAll_36) ?_
  refine mx_all_cons (ok_aload (fun hl kk => lv_aload_n X.1.1 X.1.2.1 d_Hs_canResolveAll_37 rfl hl kk) (fun hl kk => lv_aload_nN X.1.1 X.1.2.1 d_Hs_canResolveAll_37 rfl hl kk)) ?_
  refine mx_all_cons (ok_callV (C := "HeaderSchedule$Table") (T := T_Tb) (N := 1) X (mx_Zok_Z zz) hz ⟨(Nat.le_of_ble_eq_true rfl), (Nat.le_of_ble_eq_true rfl)⟩ (m_Tb_canResolve l zz) ⟨mx_cwB 1 hm w492 w489 w38 rfl rfl (by decide +kernel) ⟨(Nat.le_of_ble_eq_true rfl), (Nat.le_of_ble_eq_true rfl)⟩, (hm _ w490), hm _ w491⟩ rfl d_Hs_canResolveAll_38) ?_
  refine mx_all_cons (ok_if (fun kt kf => lv_if_ne X.1.1 X.1.2.1 d_Hs_canResolveAll_41 (by decide) kt (fun z => kf (fun g => g z)))) ?_
  refine mx_all_cons (ok_push (fun kk => lv_iconst X.1.1 X.1.2.1 d_Hs_canResolveAll_44 (by decide) kk)) ?_
  refine mx_all_cons (ok_zret X hr hlk d_Hs_canResolveAll_45) ?_
  refine mx_all_cons (ok_iinc X (by decide) (by decide) d_Hs_canResolveAll_46) ?_
  refine mx_all_cons (ok_goto X d_Hs_canResolveAll_49 (by decide)) ?_
  refine mx_all_cons (ok_push (fun kk => lv_iconst X.1.1 X.1.2.1 d_Hs_canResolveAll_52 (by decide) kk)) ?_
  refine mx_all_cons (ok_zret X hr hlk d_Hs_canResolveAll_53) ?_
  exact mx_all_nil
theorem st_Hs_canResolveAll_0 (zz : Nat × Nat) (r : mx_T) (ls : mx_L) (st : List Value) (h : mx_H) (c n : Nat) : mx_G r (t_Hs_canResolveAll zz) 0 ls st h c n = (o_push 1 (.int 0)) r (mx_G r (t_Hs_canResolveAll zz)) 0 ls st h c n := mx_G_eq (tm_Hs_canResolveAll zz) r 0 ls st h c n
theorem st_Hs_canResolveAll_1 (zz : Nat × Nat) (r : mx_T) (ls : mx_L) (st : List Value) (h : mx_H) (c n : Nat) : mx_G r (t_Hs_canResolveAll zz) 1 ls st h c n = (o_istore 1 1) r (mx_G r (t_Hs_canResolveAll zz)) 1 ls st h c n := mx_G_eq (tm_Hs_canResolveAll zz) r 1 ls st h c n
theorem st_Hs_canResolveAll_2 (zz : Nat × Nat) (r : mx_T) (ls : mx_L) (st : List Value) (h : mx_H) (c n : Nat) : mx_G r (t_Hs_canResolveAll zz) 2 ls st h c n = (o_iload 1 1) r (mx_G r (t_Hs_canResolveAll zz)) 2 ls st h c n := mx_G_eq (tm_Hs_canResolveAll zz) r 2 ls st h c n
theorem st_Hs_canResolveAll_3 (zz : Nat × Nat) (r : mx_T) (ls : mx_L) (st : List Value) (h : mx_H) (c n : Nat) : mx_G r (t_Hs_canResolveAll zz) 3 ls st h c n = (o_aload 1 0) r (mx_G r (t_Hs_canResolveAll zz)) 3 ls st h c n := mx_G_eq (tm_Hs_canResolveAll zz) r 3 ls st h c n
theorem st_Hs_canResolveAll_4 (zz : Nat × Nat) (r : mx_T) (ls : mx_L) (st : List Value) (h : mx_H) (c n : Nat) : mx_G r (t_Hs_canResolveAll zz) 4 ls st h c n = (o_get 0 3) r (mx_G r (t_Hs_canResolveAll zz)) 4 ls st h c n := mx_G_eq (tm_Hs_canResolveAll zz) r 4 ls st h c n
theorem st_Hs_canResolveAll_7 (zz : Nat × Nat) (r : mx_T) (ls : mx_L) (st : List Value) (h : mx_H) (c n : Nat) : mx_G r (t_Hs_canResolveAll zz) 7 ls st h c n = (o_call 0 0 1 0 0 (mx_rv 9) (S_Al_size zz)) r (mx_G r (t_Hs_canResolveAll zz)) 7 ls st h c n := mx_G_eq (tm_Hs_canResolveAll zz) r 7 ls st h c n
theorem st_Hs_canResolveAll_10 (zz : Nat × Nat) (r : mx_T) (ls : mx_L) (st : List Value) (h : mx_H) (c n : Nat) : mx_G r (t_Hs_canResolveAll zz) 10 ls st h c n = (o_icmp 52 (fun x y => y ≤ x)) r (mx_G r (t_Hs_canResolveAll zz)) 10 ls st h c n := mx_G_eq (tm_Hs_canResolveAll zz) r 10 ls st h c n
theorem st_Hs_canResolveAll_13 (zz : Nat × Nat) (r : mx_T) (ls : mx_L) (st : List Value) (h : mx_H) (c n : Nat) : mx_G r (t_Hs_canResolveAll zz) 13 ls st h c n = (o_aload 1 0) r (mx_G r (t_Hs_canResolveAll zz)) 13 ls st h c n := mx_G_eq (tm_Hs_canResolveAll zz) r 13 ls st h c n
theorem st_Hs_canResolveAll_14 (zz : Nat × Nat) (r : mx_T) (ls : mx_L) (st : List Value) (h : mx_H) (c n : Nat) : mx_G r (t_Hs_canResolveAll zz) 14 ls st h c n = (o_get 0 3) r (mx_G r (t_Hs_canResolveAll zz)) 14 ls st h c n := mx_G_eq (tm_Hs_canResolveAll zz) r 14 ls st h c n
theorem st_Hs_canResolveAll_17 (zz : Nat × Nat) (r : mx_T) (ls : mx_L) (st : List Value) (h : mx_H) (c n : Nat) : mx_G r (t_Hs_canResolveAll zz) 17 ls st h c n = (o_iload 1 1) r (mx_G r (t_Hs_canResolveAll zz)) 17 ls st h c n := mx_G_eq (tm_Hs_canResolveAll zz) r 17 ls st h c n
theorem st_Hs_canResolveAll_18 (zz : Nat × Nat) (r : mx_T) (ls : mx_L) (st : List Value) (h : mx_H) (c n : Nat) : mx_G r (t_Hs_canResolveAll zz) 18 ls st h c n = (o_call 0 0 2 0 0 (mx_rv 9) (S_Al_get zz)) r (mx_G r (t_Hs_canResolveAll zz)) 18 ls st h c n := mx_G_eq (tm_Hs_canResolveAll zz) r 18 ls st h c n
theorem st_Hs_canResolveAll_21 (zz : Nat × Nat) (r : mx_T) (ls : mx_L) (st : List Value) (h : mx_H) (c n : Nat) : mx_G r (t_Hs_canResolveAll zz) 21 ls st h c n = (o_cast 4) r (mx_G r (t_Hs_canResolveAll zz)) 21 ls st h c n := mx_G_eq (tm_Hs_canResolveAll zz) r 21 ls st h c n
theorem st_Hs_canResolveAll_24 (zz : Nat × Nat) (r : mx_T) (ls : mx_L) (st : List Value) (h : mx_H) (c n : Nat) : mx_G r (t_Hs_canResolveAll zz) 24 ls st h c n = (o_astore 1 2) r (mx_G r (t_Hs_canResolveAll zz)) 24 ls st h c n := mx_G_eq (tm_Hs_canResolveAll zz) r 24 ls st h c n
theorem st_Hs_canResolveAll_25 (zz : Nat × Nat) (r : mx_T) (ls : mx_L) (st : List Value) (h : mx_H) (c n : Nat) : mx_G r (t_Hs_canResolveAll zz) 25 ls st h c n = (o_aload 1 0) r (mx_G r (t_Hs_canResolveAll zz)) 25 ls st h c n := mx_G_eq (tm_Hs_canResolveAll zz) r 25 ls st h c n
theorem st_Hs_canResolveAll_26 (zz : Nat × Nat) (r : mx_T) (ls : mx_L) (st : List Value) (h : mx_H) (c n : Nat) : mx_G r (t_Hs_canResolveAll zz) 26 ls st h c n = (o_get 0 5) r (mx_G r (t_Hs_canResolveAll zz)) 26 ls st h c n := mx_G_eq (tm_Hs_canResolveAll zz) r 26 ls st h c n
theorem st_Hs_canResolveAll_29 (zz : Nat × Nat) (r : mx_T) (ls : mx_L) (st : List Value) (h : mx_H) (c n : Nat) : mx_G r (t_Hs_canResolveAll zz) 29 ls st h c n = (o_get 7 0) r (mx_G r (t_Hs_canResolveAll zz)) 29 ls st h c n := mx_G_eq (tm_Hs_canResolveAll zz) r 29 ls st h c n
theorem st_Hs_canResolveAll_32 (zz : Nat × Nat) (r : mx_T) (ls : mx_L) (st : List Value) (h : mx_H) (c n : Nat) : mx_G r (t_Hs_canResolveAll zz) 32 ls st h c n = (o_aload 1 2) r (mx_G r (t_Hs_canResolveAll zz)) 32 ls st h c n := mx_G_eq (tm_Hs_canResolveAll zz) r 32 ls st h c n
theorem st_Hs_canResolveAll_33 (zz : Nat × Nat) (r : mx_T) (ls : mx_L) (st : List Value) (h : mx_H) (c n : Nat) : mx_G r (t_Hs_canResolveAll zz) 33 ls st h c n = (o_get 4 2) r (mx_G r (t_Hs_canResolveAll zz)) 33 ls st h c n := mx_G_eq (tm_Hs_canResolveAll zz) r 33 ls st h c n
theorem st_Hs_canResolveAll_36 (zz : Nat × Nat) (r : mx_T) (ls : mx_L) (st : List Value) (h : mx_H) (c n : Nat) : mx_G r (t_Hs_canResolveAll zz) 36 ls st h c n = (o_aald) r (mx_G r (t_Hs_canResolveAll zz)) 36 ls st h c n := mx_G_eq (tm_Hs_canResolveAll zz) r 36 ls st h c n
theorem st_Hs_canResolveAll_37 (zz : Nat × Nat) (r : mx_T) (ls : mx_L) (st : List Value) (h : mx_H) (c n : Nat) : mx_G r (t_Hs_canResolveAll zz) 37 ls st h c n = (o_aload 1 2) r (mx_G r (t_Hs_canResolveAll zz)) 37 ls st h c n := mx_G_eq (tm_Hs_canResolveAll zz) r 37 ls st h c n
theorem st_Hs_canResolveAll_38 (zz : Nat × Nat) (r : mx_T) (ls : mx_L) (st : List Value) (h : mx_H) (c n : Nat) : mx_G r (t_Hs_canResolveAll zz) 38 ls st h c n = (o_call 0 0 2 0 0 (mx_rv 6) (S_Tb_canResolve zz)) r (mx_G r (t_Hs_canResolveAll zz)) 38 ls st h c n := mx_G_eq (tm_Hs_canResolveAll zz) r 38 ls st h c n
theorem st_Hs_canResolveAll_41 (zz : Nat × Nat) (r : mx_T) (ls : mx_L) (st : List Value) (h : mx_H) (c n : Nat) : mx_G r (t_Hs_canResolveAll zz) 41 ls st h c n = (o_if 46 (fun x => ¬ x = 0)) r (mx_G r (t_Hs_canResolveAll zz)) 41 ls st h c n := mx_G_eq (tm_Hs_canResolveAll zz) r 41 ls st h c n
theorem st_Hs_canResolveAll_44 (zz : Nat × Nat) (r : mx_T) (ls : mx_L) (st : List Value) (h : mx_H) (c n : Nat) : mx_G r (t_Hs_canResolveAll zz) 44 ls st h c n = (o_push 1 (.int 0)) r (mx_G r (t_Hs_canResolveAll zz)) 44 ls st h c n := mx_G_eq (tm_Hs_canResolveAll zz) r 44 ls st h c n
theorem st_Hs_canResolveAll_45 (zz : Nat × Nat) (r : mx_T) (ls : mx_L) (st : List Value) (h : mx_H) (c n : Nat) : mx_G r (t_Hs_canResolveAll zz) 45 ls st h c n = (o_zret) r (mx_G r (t_Hs_canResolveAll zz)) 45 ls st h c n := mx_G_eq (tm_Hs_canResolveAll zz) r 45 ls st h c n
theorem st_Hs_canResolveAll_46 (zz : Nat × Nat) (r : mx_T) (ls : mx_L) (st : List Value) (h : mx_H) (c n : Nat) : mx_G r (t_Hs_canResolveAll zz) 46 ls st h c n = (o_iinc 1 1) r (mx_G r (t_Hs_canResolveAll zz)) 46 ls st h c n := mx_G_eq (tm_Hs_canResolveAll zz) r 46 ls st h c n
theorem st_Hs_canResolveAll_49 (zz : Nat × Nat) (r : mx_T) (ls : mx_L) (st : List Value) (h : mx_H) (c n : Nat) : mx_G r (t_Hs_canResolveAll zz) 49 ls st h c n = (o_goto 2) r (mx_G r (t_Hs_canResolveAll zz)) 49 ls st h c n := mx_G_eq (tm_Hs_canResolveAll zz) r 49 ls st h c n
theorem st_Hs_canResolveAll_52 (zz : Nat × Nat) (r : mx_T) (ls : mx_L) (st : List Value) (h : mx_H) (c n : Nat) : mx_G r (t_Hs_canResolveAll zz) 52 ls st h c n = (o_push 1 (.int 1)) r (mx_G r (t_Hs_canResolveAll zz)) 52 ls st h c n := mx_G_eq (tm_Hs_canResolveAll zz) r 52 ls st h c n
theorem st_Hs_canResolveAll_53 (zz : Nat × Nat) (r : mx_T) (ls : mx_L) (st : List Value) (h : mx_H) (c n : Nat) : mx_G r (t_Hs_canResolveAll zz) 53 ls st h c n = (o_zret) r (mx_G r (t_Hs_canResolveAll zz)) 53 ls st h c n := mx_G_eq (tm_Hs_canResolveAll zz) r 53 ls st h c n
theorem d_Sc_begin_0 : decode c_Sc_begin 0 = .ok (.aload_n 0, 1) := by decide +kernel
theorem d_Sc_begin_1 : decode c_Sc_begin 1 = .ok (.iload_n 1, 1) := by decide +kernel
theorem d_Sc_begin_2 : decode c_Sc_begin 2 = .ok (.putfield 18, 3) := by decide +kernel
theorem d_Sc_begin_5 : decode c_Sc_begin 5 = .ok (.aload_n 0, 1) := by decide +kernel
theorem d_Sc_begin_6 : decode c_Sc_begin 6 = .ok (.iconst 0, 1) := by decide +kernel
theorem d_Sc_begin_7 : decode c_Sc_begin 7 = .ok (.putfield 22, 3) := by decide +kernel
theorem d_Sc_begin_10 : decode c_Sc_begin 10 = .ok (.return_, 1) := by decide +kernel
def t_Sc_begin (zz : Nat × Nat) : List (Nat × mx_O) := [(0, o_aload 1 0),
  (1, o_iload 1 1),
  (2, o_put 7 1 mx_vI),
  (5, o_aload 1 0),
  (6, o_push 1 (.int 0)),
  (7, o_put 7 2 mx_vI),
  (10, o_vret)]
set_option maxRecDepth 100000 in
theorem tm_Sc_begin (zz : Nat × Nat) : mx_All (fun _ o => mx_Mono o) (t_Sc_begin zz) := by
  refine mx_all_cons (mo_st) ?_
  refine mx_all_cons (mo_st) ?_
  refine mx_all_cons (mo_sc) ?_
  refine mx_all_cons (mo_st) ?_
  refine mx_all_cons (mo_st) ?_
  refine mx_all_cons (mo_sc) ?_
  refine mx_all_cons (mo_ret) ?_
  exact mx_all_nil
def S_Sc_begin (zz : Nat × Nat) : mx_Sp := mx_S 2 0 0 (t_Sc_begin zz)
theorem sm_Sc_begin (zz : Nat × Nat) : mx_SMono (S_Sc_begin zz) := mx_S_mono (tm_Sc_begin zz)
abbrev rm_Sc_begin : Room := { frames := 0, cells := 0, slots := 0, locals := 0 }
set_option maxHeartbeats 4000000 in
set_option maxRecDepth 100000 in
theorem m_Sc_begin (l : Launch) (zz : Nat × Nat) : mx_Met l y_Sc_begin (wsOf y_Sc_begin c_Sc_begin 2 none) rm_Sc_begin wcl (mx_Z zz) 0 0 (S_Sc_begin zz) := by
  refine mx_met (cc := c_Sc_begin) (ret := none) (by decide) rfl ?_
  intro p e s m args below meth c D A Post X hz hr hlk hnm
  have hm : ∀ w ∈ mw, w.before args s = true := fun w h => X.1.2.2.2.2 w (List.mem_cons_of_mem _ h)
  refine mx_all_cons (ok_aload (fun hl kk => lv_aload_n X.1.1 X.1.2.1 d_Sc_begin_0 rfl hl kk) (fun hl kk => lv_aload_nN X.1.1 X.1.2.1 d_Sc_begin_0 rfl hl kk)) ?_
  refine mx_all_cons (ok_iload (fun hl kk => lv_iload_n X.1.1 X.1.2.1 d_Sc_begin_1 rfl hl kk)) ?_
  refine mx_all_cons (ok_put (C := "HeaderSchedule$Schedule") (T := T_Sc) (N := 8) X (mw_up in_Sc) ty_Sc tyok_Sc nm_Sc rfl 1 (by decide) (hm _ w110) (fun _ h9 => h9) rfl (tyok_Sc 1 (by decide)) mx_vI_ok d_Sc_begin_2) ?_
  refine mx_all_cons (ok_aload (fun hl kk => lv_aload_n X.1.1 X.1.2.1 d_Sc_begin_5 rfl hl kk) (fun hl kk => lv_aload_nN X.1.1 X.1.2.1 d_Sc_begin_5 rfl hl kk)) ?_
  refine mx_all_cons (ok_push (fun kk => lv_iconst X.1.1 X.1.2.1 d_Sc_begin_6 (by decide) kk)) ?_
  refine mx_all_cons (ok_put (C := "HeaderSchedule$Schedule") (T := T_Sc) (N := 8) X (mw_up in_Sc) ty_Sc tyok_Sc nm_Sc rfl 2 (by decide) (hm _ w111) (fun _ h9 => h9) rfl (tyok_Sc 2 (by decide)) mx_vI_ok d_Sc_begin_7) ?_
  refine mx_all_cons (ok_vret X hr hlk d_Sc_begin_10) ?_
  exact mx_all_nil
theorem st_Sc_begin_0 (zz : Nat × Nat) (r : mx_T) (ls : mx_L) (st : List Value) (h : mx_H) (c n : Nat) : mx_G r (t_Sc_begin zz) 0 ls st h c n = (o_aload 1 0) r (mx_G r (t_Sc_begin zz)) 0 ls st h c n := mx_G_eq (tm_Sc_begin zz) r 0 ls st h c n
theorem st_Sc_begin_1 (zz : Nat × Nat) (r : mx_T) (ls : mx_L) (st : List Value) (h : mx_H) (c n : Nat) : mx_G r (t_Sc_begin zz) 1 ls st h c n = (o_iload 1 1) r (mx_G r (t_Sc_begin zz)) 1 ls st h c n := mx_G_eq (tm_Sc_begin zz) r 1 ls st h c n
theorem st_Sc_begin_2 (zz : Nat × Nat) (r : mx_T) (ls : mx_L) (st : List Value) (h : mx_H) (c n : Nat) : mx_G r (t_Sc_begin zz) 2 ls st h c n = (o_put 7 1 mx_vI) r (mx_G r (t_Sc_begin zz)) 2 ls st h c n := mx_G_eq (tm_Sc_begin zz) r 2 ls st h c n
theorem st_Sc_begin_5 (zz : Nat × Nat) (r : mx_T) (ls : mx_L) (st : List Value) (h : mx_H) (c n : Nat) : mx_G r (t_Sc_begin zz) 5 ls st h c n = (o_aload 1 0) r (mx_G r (t_Sc_begin zz)) 5 ls st h c n := mx_G_eq (tm_Sc_begin zz) r 5 ls st h c n
theorem st_Sc_begin_6 (zz : Nat × Nat) (r : mx_T) (ls : mx_L) (st : List Value) (h : mx_H) (c n : Nat) : mx_G r (t_Sc_begin zz) 6 ls st h c n = (o_push 1 (.int 0)) r (mx_G r (t_Sc_begin zz)) 6 ls st h c n := mx_G_eq (tm_Sc_begin zz) r 6 ls st h c n
theorem st_Sc_begin_7 (zz : Nat × Nat) (r : mx_T) (ls : mx_L) (st : List Value) (h : mx_H) (c n : Nat) : mx_G r (t_Sc_begin zz) 7 ls st h c n = (o_put 7 2 mx_vI) r (mx_G r (t_Sc_begin zz)) 7 ls st h c n := mx_G_eq (tm_Sc_begin zz) r 7 ls st h c n
theorem st_Sc_begin_10 (zz : Nat × Nat) (r : mx_T) (ls : mx_L) (st : List Value) (h : mx_H) (c n : Nat) : mx_G r (t_Sc_begin zz) 10 ls st h c n = (o_vret) r (mx_G r (t_Sc_begin zz)) 10 ls st h c n := mx_G_eq (tm_Sc_begin zz) r 10 ls st h c n
theorem d_Hs_start_0 : decode c_Hs_start 0 = .ok (.aload_n 0, 1) := by decide +kernel
theorem d_Hs_start_1 : decode c_Hs_start 1 = .ok (.getfield 47, 3) := by decide +kernel
theorem d_Hs_start_4 : decode c_Hs_start 4 = .ok (.ifCond .ne 28, 3) := by decide +kernel
theorem d_Hs_start_7 : decode c_Hs_start 7 = .ok (.iload_n 1, 1) := by decide +kernel
theorem d_Hs_start_8 : decode c_Hs_start 8 = .ok (.invokestatic 122, 3) := by decide +kernel
theorem d_Hs_start_11 : decode c_Hs_start 11 = .ok (.ifCond .eq 21, 3) := by decide +kernel
theorem d_Hs_start_14 : decode c_Hs_start 14 = .ok (.aload_n 0, 1) := by decide +kernel
theorem d_Hs_start_15 : decode c_Hs_start 15 = .ok (.getfield 32, 3) := by decide +kernel
theorem d_Hs_start_18 : decode c_Hs_start 18 = .ok (.iload_n 1, 1) := by decide +kernel
theorem d_Hs_start_19 : decode c_Hs_start 19 = .ok (.invokevirtual 140, 3) := by decide +kernel
theorem d_Hs_start_22 : decode c_Hs_start 22 = .ok (.ifCond .eq 10, 3) := by decide +kernel
theorem d_Hs_start_25 : decode c_Hs_start 25 = .ok (.aload_n 0, 1) := by decide +kernel
theorem d_Hs_start_26 : decode c_Hs_start 26 = .ok (.invokevirtual 160, 3) := by decide +kernel
theorem d_Hs_start_29 : decode c_Hs_start 29 = .ok (.ifCond .ne 5, 3) := by decide +kernel
theorem d_Hs_start_32 : decode c_Hs_start 32 = .ok (.iconst 0, 1) := by decide +kernel
theorem d_Hs_start_33 : decode c_Hs_start 33 = .ok (.ireturn, 1) := by decide +kernel
theorem d_Hs_start_34 : decode c_Hs_start 34 = .ok (.aload_n 0, 1) := by decide +kernel
theorem d_Hs_start_35 : decode c_Hs_start 35 = .ok (.iconst 1, 1) := by decide +kernel
theorem d_Hs_start_36 : decode c_Hs_start 36 = .ok (.putfield 47, 3) := by decide +kernel
theorem d_Hs_start_39 : decode c_Hs_start 39 = .ok (.aload_n 0, 1) := by decide +kernel
theorem d_Hs_start_40 : decode c_Hs_start 40 = .ok (.getfield 32, 3) := by decide +kernel
theorem d_Hs_start_43 : decode c_Hs_start 43 = .ok (.iload_n 1, 1) := by decide +kernel
theorem d_Hs_start_44 : decode c_Hs_start 44 = .ok (.invokevirtual 164, 3) := by decide +kernel
theorem d_Hs_start_47 : decode c_Hs_start 47 = .ok (.iconst 1, 1) := by decide +kernel
theorem d_Hs_start_48 : decode c_Hs_start 48 = .ok (.ireturn, 1) := by decide +kernel
def t_Hs_start (zz : Nat × Nat) : List (Nat × mx_O) := [(0, o_aload 1 0),
  (1, o_get 0 8),
  (4, o_if 32 (fun x => ¬ x = 0)),
  (7, o_iload 1 1),
  (8, o_call 0 0 1 0 0 (fun _ _ => True) (S_Hs_isTable zz)),
  (11, o_if 32 (fun x => x = 0)),
  (14, o_aload 1 0),
  (15, o_get 0 5),
  (18, o_iload 1 1),
  (19, o_call 0 0 2 0 0 (mx_rv 7) (S_Sc_sizeOf zz)),
  (22, o_if 32 (fun x => x = 0)),
  (25, o_aload 1 0),
  (26, o_call 0 0 1 0 0 (mx_rv 0) (S_Hs_canResolveAll zz)),
  (29, o_if 34 (fun x => ¬ x = 0)),
  (32, o_push 1 (.int 0)),
  (33, o_zret),
  (34, o_aload 1 0),
  (35, o_push 1 (.int 1)),
  (36, o_put 0 8 mx_vZ),
  (39, o_aload 1 0),
  (40, o_get 0 5),
  (43, o_iload 1 1),
  (44, o_call 0 0 2 0 0 (mx_rv 7) (S_Sc_begin zz)),
  (47, o_push 1 (.int 1)),
  (48, o_zret)]
set_option maxRecDepth 100000 in
theorem tm_Hs_start (zz : Nat × Nat) : mx_All (fun _ o => mx_Mono o) (t_Hs_start zz) := by
  refine mx_all_cons (mo_st) ?_
  refine mx_all_cons (mo_st) ?_
  refine mx_all_cons (mo_br) ?_
  refine mx_all_cons (mo_st) ?_
  refine mx_all_cons (mo_call (sm_Hs_isTable zz)) ?_
  refine mx_all_cons (mo_br) ?_
  refine mx_all_cons (mo_st) ?_
  refine mx_all_cons (mo_st) ?_
  refine mx_all_cons (mo_st) ?_
  refine mx_all_cons (mo_call (sm_Sc_sizeOf zz)) ?_
  refine mx_all_cons (mo_br) ?_
  refine mx_all_cons (mo_st) ?_
  refine mx_all_cons (mo_call (sm_Hs_canResolveAll zz)) ?_
  refine mx_all_cons (mo_br) ?_
  refine mx_all_cons (mo_st) ?_
  refine mx_all_cons (mo_zret) ?_
  refine mx_all_cons (mo_st) ?_
  refine mx_all_cons (mo_st) ?_
  refine mx_all_cons (mo_sc) ?_
  refine mx_all_cons (mo_st) ?_
  refine mx_all_cons (mo_st) ?_
  refine mx_all_cons (mo_st) ?_
  refine mx_all_cons (mo_call (sm_Sc_begin zz)) ?_
  refine mx_all_cons (mo_st) ?_
  refine mx_all_cons (mo_zret) ?_
  exact mx_all_nil
def S_Hs_start (zz : Nat × Nat) : mx_Sp := mx_S 2 0 0 (t_Hs_start zz)
theorem sm_Hs_start (zz : Nat × Nat) : mx_SMono (S_Hs_start zz) := mx_S_mono (tm_Hs_start zz)
abbrev rm_Hs_start : Room := { frames := 6, cells := 0, slots := 0, locals := 134 }
set_option maxHeartbeats 4000000 in
set_option maxRecDepth 100000 in
theorem m_Hs_start (l : Launch) (zz : Nat × Nat) : mx_Met l y_Hs_start (wsOf y_Hs_start c_Hs_start 2 (some .boolean)) rm_Hs_start wcl (mx_Z zz) 0 0 (S_Hs_start zz) := by
  refine mx_met (cc := c_Hs_start) (ret := (some .boolean)) (by decide) rfl ?_
  intro p e s m args below meth c D A Post X hz hr hlk hnm
  have hm : ∀ w ∈ mw, w.before args s = true := fun w h => X.1.2.2.2.2 w (List.mem_cons_of_mem _ h)
  refine mx_all_cons (ok_aload (fun hl kk => lv_aload_n X.1.1 X.1.2.1 d_Hs_start_0 rfl hl kk) (fun hl kk => lv_aload_nN X.1.1 X.1.2.1 d_Hs_start_0 rfl hl kk)) ?_
  refine mx_all_cons (ok_get (C := "HeaderSchedule") (T := T_Hs) (N := 11) X (mw_up in_Hs) rfl 8 (by decide) (hm _ w166) (fun _ h9 => h9) d_Hs_start_1) ?_
  refine mx_all_cons (ok_if (fun kt kf => lv_if_ne X.1.1 X.1.2.1 d_Hs_start_4 (by decide) kt (fun z => kf (fun g => g z)))) ?_
  refine mx_all_cons (ok_iload (fun hl kk => lv_iload_n X.1.1 X.1.2.1 d_Hs_start_7 rfl hl kk)) ?_
  refine mx_all_cons (ok_callS X (mx_Zok_Z zz) hz ⟨(Nat.le_of_ble_eq_true rfl), (Nat.le_of_ble_eq_true rfl)⟩ (m_Hs_isTable l zz) ⟨mx_cwB 1 hm w409 w407 w33 rfl rfl (by decide +kernel) ⟨(Nat.le_of_ble_eq_true rfl), (Nat.le_of_ble_eq_true rfl)⟩, (hm _ w408)⟩ d_Hs_start_8) ?_
  refine mx_all_cons (ok_if (fun kt kf => lv_if_eq X.1.1 X.1.2.1 d_Hs_start_11 (by decide) kt kf)) ?_
  refine mx_all_cons (ok_aload (fun hl kk => lv_aload_n X.1.1 X.1.2.1 d_Hs_start_14 rfl hl kk) (fun hl kk => lv_aload_nN X.1.1 X.1.2.1 d_Hs_start_14 rfl hl kk)) ?_
  refine mx_all_cons (ok_get (C := "HeaderSchedule") (T := T_Hs) (N := 11) X (mw_up in_Hs) rfl 5 (by decide) (hm _ w163) (fun _ h9 => h9) d_Hs_start_15) ?_
  refine mx_all_cons (ok_iload (fun hl kk => lv_iload_n X.1.1 X.1.2.1 d_Hs_start_18 rfl hl kk)) ?_
  refine mx_all_cons (ok_callV (C := "HeaderSchedule$Schedule") (T := T_Sc) (N := 8) X (mx_Zok_Z zz) hz ⟨(Nat.le_of_ble_eq_true rfl), (Nat.le_of_ble_eq_true rfl)⟩ (m_Sc_sizeOf l zz) ⟨mx_cwB 1 hm w454 w451 w37 rfl rfl (by decide +kernel) ⟨(Nat.le_of_ble_eq_true rfl), (Nat.le_of_ble_eq_true rfl)⟩, (hm _ w452), hm _ w453⟩ rfl d_Hs_start_19) ?_
  refine mx_all_cons (ok_if (fun kt kf => lv_if_eq X.1.1 X.1.2.1 d_Hs_start_22 (by decide) kt kf)) ?_
  refine mx_all_cons (ok_aload (fun hl kk => lv_aload_n X.1.1 X.1.2.1 d_Hs_start_25 rfl hl kk) (fun hl kk => lv_aload_nN X.1.1 X.1.2.1 d_Hs_start_25 rfl hl kk)) ?_
  refine mx_all_cons (ok_callV (C := "HeaderSchedule") (T := T_Hs) (N := 11) X (mx_Zok_Z zz) hz ⟨(Nat.le_of_ble_eq_true rfl), (Nat.le_of_ble_eq_true rfl)⟩ (m_Hs_canResolveAll l zz) ⟨mx_cwB 0 hm w488 w485 w33 rfl rfl (by decide +kernel) ⟨(Nat.le_of_ble_eq_true rfl), (Nat.le_of_ble_eq_true rfl)⟩, (hm _ w487), hm _ w9⟩ rfl d_Hs_start_26) ?_
  refine mx_all_cons (ok_if (fun kt kf => lv_if_ne X.1.1 X.1.2.1 d_Hs_start_29 (by decide) kt (fun z => kf (fun g => g z)))) ?_
  refine mx_all_cons (ok_push (fun kk => lv_iconst X.1.1 X.1.2.1 d_Hs_start_32 (by decide) kk)) ?_
  refine mx_all_cons (ok_zret X hr hlk d_Hs_start_33) ?_
  refine mx_all_cons (ok_aload (fun hl kk => lv_aload_n X.1.1 X.1.2.1 d_Hs_start_34 rfl hl kk) (fun hl kk => lv_aload_nN X.1.1 X.1.2.1 d_Hs_start_34 rfl hl kk)) ?_
  refine mx_all_cons (ok_push (fun kk => lv_iconst X.1.1 X.1.2.1 d_Hs_start_35 (by decide) kk)) ?_
  refine mx_all_cons (ok_put (C := "HeaderSchedule") (T := T_Hs) (N := 11) X (mw_up in_Hs) ty_Hs tyok_Hs nm_Hs rfl 8 (by decide) (hm _ w166) (fun _ h9 => h9) rfl (tyok_Hs 8 (by decide)) mx_vZ_ok d_Hs_start_36) ?_
  refine mx_all_cons (ok_aload (fun hl kk => lv_aload_n X.1.1 X.1.2.1 d_Hs_start_39 rfl hl kk) (fun hl kk => lv_aload_nN X.1.1 X.1.2.1 d_Hs_start_39 rfl hl kk)) ?_
  refine mx_all_cons (ok_get (C := "HeaderSchedule") (T := T_Hs) (N := 11) X (mw_up in_Hs) rfl 5 (by decide) (hm _ w163) (fun _ h9 => h9) d_Hs_start_40) ?_
  refine mx_all_cons (ok_iload (fun hl kk => lv_iload_n X.1.1 X.1.2.1 d_Hs_start_43 rfl hl kk)) ?_
  refine mx_all_cons (ok_callV (C := "HeaderSchedule$Schedule") (T := T_Sc) (N := 8) X (mx_Zok_Z zz) hz ⟨(Nat.le_of_ble_eq_true rfl), (Nat.le_of_ble_eq_true rfl)⟩ (m_Sc_begin l zz) ⟨mx_cwB 1 hm w507 w504 w37 rfl rfl (by decide +kernel) ⟨(Nat.le_of_ble_eq_true rfl), (Nat.le_of_ble_eq_true rfl)⟩, (hm _ w505), hm _ w506⟩ rfl d_Hs_start_44) ?_
  refine mx_all_cons (ok_push (fun kk => lv_iconst X.1.1 X.1.2.1 d_Hs_start_47 (by decide) kk)) ?_
  refine mx_all_cons (ok_zret X hr hlk d_Hs_start_48) ?_
  exact mx_all_nil
theorem st_Hs_start_0 (zz : Nat × Nat) (r : mx_T) (ls : mx_L) (st : List Value) (h : mx_H) (c n : Nat) : mx_G r (t_Hs_start zz) 0 ls st h c n = (o_aload 1 0) r (mx_G r (t_Hs_start zz)) 0 ls st h c n := mx_G_eq (tm_Hs_start zz) r 0 ls st h c n
theorem st_Hs_start_1 (zz : Nat × Nat) (r : mx_T) (ls : mx_L) (st : List Value) (h : mx_H) (c n : Nat) : mx_G r (t_Hs_start zz) 1 ls st h c n = (o_get 0 8) r (mx_G r (t_Hs_start zz)) 1 ls st h c n := mx_G_eq (tm_Hs_start zz) r 1 ls st h c n
theorem st_Hs_start_4 (zz : Nat × Nat) (r : mx_T) (ls : mx_L) (st : List Value) (h : mx_H) (c n : Nat) : mx_G r (t_Hs_start zz) 4 ls st h c n = (o_if 32 (fun x => ¬ x = 0)) r (mx_G r (t_Hs_start zz)) 4 ls st h c n := mx_G_eq (tm_Hs_start zz) r 4 ls st h c n
theorem st_Hs_start_7 (zz : Nat × Nat) (r : mx_T) (ls : mx_L) (st : List Value) (h : mx_H) (c n : Nat) : mx_G r (t_Hs_start zz) 7 ls st h c n = (o_iload 1 1) r (mx_G r (t_Hs_start zz)) 7 ls st h c n := mx_G_eq (tm_Hs_start zz) r 7 ls st h c n
theorem st_Hs_start_8 (zz : Nat × Nat) (r : mx_T) (ls : mx_L) (st : List Value) (h : mx_H) (c n : Nat) : mx_G r (t_Hs_start zz) 8 ls st h c n = (o_call 0 0 1 0 0 (fun _ _ => True) (S_Hs_isTable zz)) r (mx_G r (t_Hs_start zz)) 8 ls st h c n := mx_G_eq (tm_Hs_start zz) r 8 ls st h c n
theorem st_Hs_start_11 (zz : Nat × Nat) (r : mx_T) (ls : mx_L) (st : List Value) (h : mx_H) (c n : Nat) : mx_G r (t_Hs_start zz) 11 ls st h c n = (o_if 32 (fun x => x = 0)) r (mx_G r (t_Hs_start zz)) 11 ls st h c n := mx_G_eq (tm_Hs_start zz) r 11 ls st h c n
theorem st_Hs_start_14 (zz : Nat × Nat) (r : mx_T) (ls : mx_L) (st : List Value) (h : mx_H) (c n : Nat) : mx_G r (t_Hs_start zz) 14 ls st h c n = (o_aload 1 0) r (mx_G r (t_Hs_start zz)) 14 ls st h c n := mx_G_eq (tm_Hs_start zz) r 14 ls st h c n
theorem st_Hs_start_15 (zz : Nat × Nat) (r : mx_T) (ls : mx_L) (st : List Value) (h : mx_H) (c n : Nat) : mx_G r (t_Hs_start zz) 15 ls st h c n = (o_get 0 5) r (mx_G r (t_Hs_start zz)) 15 ls st h c n := mx_G_eq (tm_Hs_start zz) r 15 ls st h c n
theorem st_Hs_start_18 (zz : Nat × Nat) (r : mx_T) (ls : mx_L) (st : List Value) (h : mx_H) (c n : Nat) : mx_G r (t_Hs_start zz) 18 ls st h c n = (o_iload 1 1) r (mx_G r (t_Hs_start zz)) 18 ls st h c n := mx_G_eq (tm_Hs_start zz) r 18 ls st h c n
theorem st_Hs_start_19 (zz : Nat × Nat) (r : mx_T) (ls : mx_L) (st : List Value) (h : mx_H) (c n : Nat) : mx_G r (t_Hs_start zz) 19 ls st h c n = (o_call 0 0 2 0 0 (mx_rv 7) (S_Sc_sizeOf zz)) r (mx_G r (t_Hs_start zz)) 19 ls st h c n := mx_G_eq (tm_Hs_start zz) r 19 ls st h c n
theorem st_Hs_start_22 (zz : Nat × Nat) (r : mx_T) (ls : mx_L) (st : List Value) (h : mx_H) (c n : Nat) : mx_G r (t_Hs_start zz) 22 ls st h c n = (o_if 32 (fun x => x = 0)) r (mx_G r (t_Hs_start zz)) 22 ls st h c n := mx_G_eq (tm_Hs_start zz) r 22 ls st h c n
theorem st_Hs_start_25 (zz : Nat × Nat) (r : mx_T) (ls : mx_L) (st : List Value) (h : mx_H) (c n : Nat) : mx_G r (t_Hs_start zz) 25 ls st h c n = (o_aload 1 0) r (mx_G r (t_Hs_start zz)) 25 ls st h c n := mx_G_eq (tm_Hs_start zz) r 25 ls st h c n
theorem st_Hs_start_26 (zz : Nat × Nat) (r : mx_T) (ls : mx_L) (st : List Value) (h : mx_H) (c n : Nat) : mx_G r (t_Hs_start zz) 26 ls st h c n = (o_call 0 0 1 0 0 (mx_rv 0) (S_Hs_canResolveAll zz)) r (mx_G r (t_Hs_start zz)) 26 ls st h c n := mx_G_eq (tm_Hs_start zz) r 26 ls st h c n
theorem st_Hs_start_29 (zz : Nat × Nat) (r : mx_T) (ls : mx_L) (st : List Value) (h : mx_H) (c n : Nat) : mx_G r (t_Hs_start zz) 29 ls st h c n = (o_if 34 (fun x => ¬ x = 0)) r (mx_G r (t_Hs_start zz)) 29 ls st h c n := mx_G_eq (tm_Hs_start zz) r 29 ls st h c n
theorem st_Hs_start_32 (zz : Nat × Nat) (r : mx_T) (ls : mx_L) (st : List Value) (h : mx_H) (c n : Nat) : mx_G r (t_Hs_start zz) 32 ls st h c n = (o_push 1 (.int 0)) r (mx_G r (t_Hs_start zz)) 32 ls st h c n := mx_G_eq (tm_Hs_start zz) r 32 ls st h c n
theorem st_Hs_start_33 (zz : Nat × Nat) (r : mx_T) (ls : mx_L) (st : List Value) (h : mx_H) (c n : Nat) : mx_G r (t_Hs_start zz) 33 ls st h c n = (o_zret) r (mx_G r (t_Hs_start zz)) 33 ls st h c n := mx_G_eq (tm_Hs_start zz) r 33 ls st h c n
theorem st_Hs_start_34 (zz : Nat × Nat) (r : mx_T) (ls : mx_L) (st : List Value) (h : mx_H) (c n : Nat) : mx_G r (t_Hs_start zz) 34 ls st h c n = (o_aload 1 0) r (mx_G r (t_Hs_start zz)) 34 ls st h c n := mx_G_eq (tm_Hs_start zz) r 34 ls st h c n
theorem st_Hs_start_35 (zz : Nat × Nat) (r : mx_T) (ls : mx_L) (st : List Value) (h : mx_H) (c n : Nat) : mx_G r (t_Hs_start zz) 35 ls st h c n = (o_push 1 (.int 1)) r (mx_G r (t_Hs_start zz)) 35 ls st h c n := mx_G_eq (tm_Hs_start zz) r 35 ls st h c n
theorem st_Hs_start_36 (zz : Nat × Nat) (r : mx_T) (ls : mx_L) (st : List Value) (h : mx_H) (c n : Nat) : mx_G r (t_Hs_start zz) 36 ls st h c n = (o_put 0 8 mx_vZ) r (mx_G r (t_Hs_start zz)) 36 ls st h c n := mx_G_eq (tm_Hs_start zz) r 36 ls st h c n
theorem st_Hs_start_39 (zz : Nat × Nat) (r : mx_T) (ls : mx_L) (st : List Value) (h : mx_H) (c n : Nat) : mx_G r (t_Hs_start zz) 39 ls st h c n = (o_aload 1 0) r (mx_G r (t_Hs_start zz)) 39 ls st h c n := mx_G_eq (tm_Hs_start zz) r 39 ls st h c n
theorem st_Hs_start_40 (zz : Nat × Nat) (r : mx_T) (ls : mx_L) (st : List Value) (h : mx_H) (c n : Nat) : mx_G r (t_Hs_start zz) 40 ls st h c n = (o_get 0 5) r (mx_G r (t_Hs_start zz)) 40 ls st h c n := mx_G_eq (tm_Hs_start zz) r 40 ls st h c n
theorem st_Hs_start_43 (zz : Nat × Nat) (r : mx_T) (ls : mx_L) (st : List Value) (h : mx_H) (c n : Nat) : mx_G r (t_Hs_start zz) 43 ls st h c n = (o_iload 1 1) r (mx_G r (t_Hs_start zz)) 43 ls st h c n := mx_G_eq (tm_Hs_start zz) r 43 ls st h c n
theorem st_Hs_start_44 (zz : Nat × Nat) (r : mx_T) (ls : mx_L) (st : List Value) (h : mx_H) (c n : Nat) : mx_G r (t_Hs_start zz) 44 ls st h c n = (o_call 0 0 2 0 0 (mx_rv 7) (S_Sc_begin zz)) r (mx_G r (t_Hs_start zz)) 44 ls st h c n := mx_G_eq (tm_Hs_start zz) r 44 ls st h c n
theorem st_Hs_start_47 (zz : Nat × Nat) (r : mx_T) (ls : mx_L) (st : List Value) (h : mx_H) (c n : Nat) : mx_G r (t_Hs_start zz) 47 ls st h c n = (o_push 1 (.int 1)) r (mx_G r (t_Hs_start zz)) 47 ls st h c n := mx_G_eq (tm_Hs_start zz) r 47 ls st h c n
theorem st_Hs_start_48 (zz : Nat × Nat) (r : mx_T) (ls : mx_L) (st : List Value) (h : mx_H) (c n : Nat) : mx_G r (t_Hs_start zz) 48 ls st h c n = (o_zret) r (mx_G r (t_Hs_start zz)) 48 ls st h c n := mx_G_eq (tm_Hs_start zz) r 48 ls st h c n
theorem d_Hs_signalAt_0 : decode c_Hs_signalAt 0 = .ok (.iload_n 1, 1) := by decide +kernel
theorem d_Hs_signalAt_1 : decode c_Hs_signalAt 1 = .ok (.iconst 0, 1) := by decide +kernel
theorem d_Hs_signalAt_2 : decode c_Hs_signalAt 2 = .ok (.aload_n 0, 1) := by decide +kernel
theorem d_Hs_signalAt_3 : decode c_Hs_signalAt 3 = .ok (.getfield 16, 3) := by decide +kernel
theorem d_Hs_signalAt_6 : decode c_Hs_signalAt 6 = .ok (.invokevirtual 58, 3) := by decide +kernel
theorem d_Hs_signalAt_9 : decode c_Hs_signalAt 9 = .ok (.iconst 1, 1) := by decide +kernel
theorem d_Hs_signalAt_10 : decode c_Hs_signalAt 10 = .ok (.isub, 1) := by decide +kernel
theorem d_Hs_signalAt_11 : decode c_Hs_signalAt 11 = .ok (.invokestatic 66, 3) := by decide +kernel
theorem d_Hs_signalAt_14 : decode c_Hs_signalAt 14 = .ok (.ifCond .eq 17, 3) := by decide +kernel
theorem d_Hs_signalAt_17 : decode c_Hs_signalAt 17 = .ok (.aload_n 0, 1) := by decide +kernel
theorem d_Hs_signalAt_18 : decode c_Hs_signalAt 18 = .ok (.getfield 16, 3) := by decide +kernel
theorem d_Hs_signalAt_21 : decode c_Hs_signalAt 21 = .ok (.iload_n 1, 1) := by decide +kernel
theorem d_Hs_signalAt_22 : decode c_Hs_signalAt 22 = .ok (.invokevirtual 213, 3) := by decide +kernel
theorem d_Hs_signalAt_25 : decode c_Hs_signalAt 25 = .ok (.checkcast 90, 3) := by decide +kernel
theorem d_Hs_signalAt_28 : decode c_Hs_signalAt 28 = .ok (.goto 4, 3) := by decide +kernel
theorem d_Hs_signalAt_31 : decode c_Hs_signalAt 31 = .ok (.aconst_null, 1) := by decide +kernel
theorem d_Hs_signalAt_32 : decode c_Hs_signalAt 32 = .ok (.areturn, 1) := by decide +kernel
def t_Hs_signalAt (zz : Nat × Nat) : List (Nat × mx_O) := [(0, o_iload 1 1),
  (1, o_push 1 (.int 0)),
  (2, o_aload 1 0),
  (3, o_get 0 1),
  (6, o_call 0 0 1 0 0 (mx_rv 9) (S_Al_size zz)),
  (9, o_push 1 (.int 1)),
  (10, o_ii (fun x y => x - y)),
  (11, o_call 0 0 3 0 0 (fun _ _ => True) (S_Hs_isWithin zz)),
  (14, o_if 31 (fun x => x = 0)),
  (17, o_aload 1 0),
  (18, o_get 0 1),
  (21, o_iload 1 1),
  (22, o_call 0 0 2 0 0 (mx_rv 9) (S_Al_get zz)),
  (25, o_cast 2),
  (28, o_goto 32),
  (31, o_push 1 .null),
  (32, o_aret)]
set_option maxRecDepth 100000 in
theorem tm_Hs_signalAt (zz : Nat × Nat) : mx_All (fun _ o => mx_Mono o) (t_Hs_signalAt zz) := by
  refine mx_all_cons (mo_st) ?_
  refine mx_all_cons (mo_st) ?_
  refine mx_all_cons (mo_st) ?_
  refine mx_all_cons (mo_st) ?_
  refine mx_all_cons (mo_call (sm_Al_size zz)) ?_
  refine mx_all_cons (mo_st) ?_
  refine mx_all_cons (mo_st) ?_
  refine mx_all_cons (mo_call (sm_Hs_isWithin zz)) ?_
  refine mx_all_cons (mo_br) ?_
  refine mx_all_cons (mo_st) ?_
  refine mx_all_cons (mo_st) ?_
  refine mx_all_cons (mo_st) ?_
  refine mx_all_cons (mo_call (sm_Al_get zz)) ?_
  refine mx_all_cons (mo_sc) ?_
  refine mx_all_cons (mo_st) ?_
  refine mx_all_cons (mo_st) ?_
  refine mx_all_cons (mo_ret) ?_
  exact mx_all_nil
def S_Hs_signalAt (zz : Nat × Nat) : mx_Sp := mx_S 2 0 0 (t_Hs_signalAt zz)
theorem sm_Hs_signalAt (zz : Nat × Nat) : mx_SMono (S_Hs_signalAt zz) := mx_S_mono (tm_Hs_signalAt zz)
abbrev rm_Hs_signalAt : Room := { frames := 3, cells := 0, slots := 0, locals := 64 }
set_option maxHeartbeats 4000000 in
set_option maxRecDepth 100000 in
theorem m_Hs_signalAt (l : Launch) (zz : Nat × Nat) : mx_Met l y_Hs_signalAt (wsOf y_Hs_signalAt c_Hs_signalAt 2 (some (.object "HeaderSchedule$Signal"))) rm_Hs_signalAt wcl (mx_Z zz) 0 0 (S_Hs_signalAt zz) := by
  refine mx_met (cc := c_Hs_signalAt) (ret := (some (.object "HeaderSchedule$Signal"))) (by decide) rfl ?_
  intro p e s m args below meth c D A Post X hz hr hlk hnm
  have hm : ∀ w ∈ mw, w.before args s = true := fun w h => X.1.2.2.2.2 w (List.mem_cons_of_mem _ h)
  refine mx_all_cons (ok_iload (fun hl kk => lv_iload_n X.1.1 X.1.2.1 d_Hs_signalAt_0 rfl hl kk)) ?_
  refine mx_all_cons (ok_push (fun kk => lv_iconst X.1.1 X.1.2.1 d_Hs_signalAt_1 (by decide) kk)) ?_
  refine mx_all_cons (ok_aload (fun hl kk => lv_aload_n X.1.1 X.1.2.1 d_Hs_signalAt_2 rfl hl kk) (fun hl kk => lv_aload_nN X.1.1 X.1.2.1 d_Hs_signalAt_2 rfl hl kk)) ?_
  refine mx_all_cons (ok_get (C := "HeaderSchedule") (T := T_Hs) (N := 11) X (mw_up in_Hs) rfl 1 (by decide) (hm _ w159) (fun _ h9 => h9) d_Hs_signalAt_3) ?_
  refine mx_all_cons (ok_callV (C := "java/util/ArrayList") (T := T_Al) (N := 3) X (mx_Zok_Z zz) hz ⟨(Nat.le_of_ble_eq_true rfl), (Nat.le_of_ble_eq_true rfl)⟩ (m_Al_size l zz) ⟨mx_cwB 0 hm w199 w196 w36 rfl rfl (by decide +kernel) ⟨(Nat.le_of_ble_eq_true rfl), (Nat.le_of_ble_eq_true rfl)⟩, (hm _ w197), hm _ w198⟩ rfl d_Hs_signalAt_6) ?_
  refine mx_all_cons (ok_push (fun kk => lv_iconst X.1.1 X.1.2.1 d_Hs_signalAt_9 (by decide) kk)) ?_
  refine mx_all_cons (ok_ii (fun kk => lv_isub X.1.1 X.1.2.1 d_Hs_signalAt_10 kk)) ?_
  refine mx_all_cons (ok_callS X (mx_Zok_Z zz) hz ⟨(Nat.le_of_ble_eq_true rfl), (Nat.le_of_ble_eq_true rfl)⟩ (m_Hs_isWithin l zz) ⟨mx_cwB 3 hm w206 w204 w33 rfl rfl (by decide +kernel) ⟨(Nat.le_of_ble_eq_true rfl), (Nat.le_of_ble_eq_true rfl)⟩, (hm _ w205)⟩ d_Hs_signalAt_11) ?_
  refine mx_all_cons (ok_if (fun kt kf => lv_if_eq X.1.1 X.1.2.1 d_Hs_signalAt_14 (by decide) kt kf)) ?_
  refine mx_all_cons (ok_aload (fun hl kk => lv_aload_n X.1.1 X.1.2.1 d_Hs_signalAt_17 rfl hl kk) (fun hl kk => lv_aload_nN X.1.1 X.1.2.1 d_Hs_signalAt_17 rfl hl kk)) ?_
  refine mx_all_cons (ok_get (C := "HeaderSchedule") (T := T_Hs) (N := 11) X (mw_up in_Hs) rfl 1 (by decide) (hm _ w159) (fun _ h9 => h9) d_Hs_signalAt_18) ?_
  refine mx_all_cons (ok_iload (fun hl kk => lv_iload_n X.1.1 X.1.2.1 d_Hs_signalAt_21 rfl hl kk)) ?_
  refine mx_all_cons (ok_callV (C := "java/util/ArrayList") (T := T_Al) (N := 3) X (mx_Zok_Z zz) hz ⟨(Nat.le_of_ble_eq_true rfl), (Nat.le_of_ble_eq_true rfl)⟩ (m_Al_get l zz) ⟨mx_cwB 1 hm w326 w323 w36 rfl rfl (by decide +kernel) ⟨(Nat.le_of_ble_eq_true rfl), (Nat.le_of_ble_eq_true rfl)⟩, (hm _ w324), hm _ w325⟩ rfl d_Hs_signalAt_22) ?_
  refine mx_all_cons (ok_cast (C := "HeaderSchedule$Signal") (T := T_Sg) (N := 5) X rfl (hm _ w337) d_Hs_signalAt_25) ?_
  refine mx_all_cons (ok_goto X d_Hs_signalAt_28 (by decide)) ?_
  refine mx_all_cons (ok_push (fun kk => lv_null X.1.1 X.1.2.1 d_Hs_signalAt_31 kk)) ?_
  refine mx_all_cons (ok_aret X hr (by first | exact Or.inl ⟨_, rfl⟩ | exact Or.inr ⟨_, rfl⟩) hlk d_Hs_signalAt_32) ?_
  exact mx_all_nil
theorem st_Hs_signalAt_0 (zz : Nat × Nat) (r : mx_T) (ls : mx_L) (st : List Value) (h : mx_H) (c n : Nat) : mx_G r (t_Hs_signalAt zz) 0 ls st h c n = (o_iload 1 1) r (mx_G r (t_Hs_signalAt zz)) 0 ls st h c n := mx_G_eq (tm_Hs_signalAt zz) r 0 ls st h c n
theorem st_Hs_signalAt_1 (zz : Nat × Nat) (r : mx_T) (ls : mx_L) (st : List Value) (h : mx_H) (c n : Nat) : mx_G r (t_Hs_signalAt zz) 1 ls st h c n = (o_push 1 (.int 0)) r (mx_G r (t_Hs_signalAt zz)) 1 ls st h c n := mx_G_eq (tm_Hs_signalAt zz) r 1 ls st h c n
theorem st_Hs_signalAt_2 (zz : Nat × Nat) (r : mx_T) (ls : mx_L) (st : List Value) (h : mx_H) (c n : Nat) : mx_G r (t_Hs_signalAt zz) 2 ls st h c n = (o_aload 1 0) r (mx_G r (t_Hs_signalAt zz)) 2 ls st h c n := mx_G_eq (tm_Hs_signalAt zz) r 2 ls st h c n
theorem st_Hs_signalAt_3 (zz : Nat × Nat) (r : mx_T) (ls : mx_L) (st : List Value) (h : mx_H) (c n : Nat) : mx_G r (t_Hs_signalAt zz) 3 ls st h c n = (o_get 0 1) r (mx_G r (t_Hs_signalAt zz)) 3 ls st h c n := mx_G_eq (tm_Hs_signalAt zz) r 3 ls st h c n
theorem st_Hs_signalAt_6 (zz : Nat × Nat) (r : mx_T) (ls : mx_L) (st : List Value) (h : mx_H) (c n : Nat) : mx_G r (t_Hs_signalAt zz) 6 ls st h c n = (o_call 0 0 1 0 0 (mx_rv 9) (S_Al_size zz)) r (mx_G r (t_Hs_signalAt zz)) 6 ls st h c n := mx_G_eq (tm_Hs_signalAt zz) r 6 ls st h c n
theorem st_Hs_signalAt_9 (zz : Nat × Nat) (r : mx_T) (ls : mx_L) (st : List Value) (h : mx_H) (c n : Nat) : mx_G r (t_Hs_signalAt zz) 9 ls st h c n = (o_push 1 (.int 1)) r (mx_G r (t_Hs_signalAt zz)) 9 ls st h c n := mx_G_eq (tm_Hs_signalAt zz) r 9 ls st h c n
theorem st_Hs_signalAt_10 (zz : Nat × Nat) (r : mx_T) (ls : mx_L) (st : List Value) (h : mx_H) (c n : Nat) : mx_G r (t_Hs_signalAt zz) 10 ls st h c n = (o_ii (fun x y => x - y)) r (mx_G r (t_Hs_signalAt zz)) 10 ls st h c n := mx_G_eq (tm_Hs_signalAt zz) r 10 ls st h c n
theorem st_Hs_signalAt_11 (zz : Nat × Nat) (r : mx_T) (ls : mx_L) (st : List Value) (h : mx_H) (c n : Nat) : mx_G r (t_Hs_signalAt zz) 11 ls st h c n = (o_call 0 0 3 0 0 (fun _ _ => True) (S_Hs_isWithin zz)) r (mx_G r (t_Hs_signalAt zz)) 11 ls st h c n := mx_G_eq (tm_Hs_signalAt zz) r 11 ls st h c n
theorem st_Hs_signalAt_14 (zz : Nat × Nat) (r : mx_T) (ls : mx_L) (st : List Value) (h : mx_H) (c n : Nat) : mx_G r (t_Hs_signalAt zz) 14 ls st h c n = (o_if 31 (fun x => x = 0)) r (mx_G r (t_Hs_signalAt zz)) 14 ls st h c n := mx_G_eq (tm_Hs_signalAt zz) r 14 ls st h c n
theorem st_Hs_signalAt_17 (zz : Nat × Nat) (r : mx_T) (ls : mx_L) (st : List Value) (h : mx_H) (c n : Nat) : mx_G r (t_Hs_signalAt zz) 17 ls st h c n = (o_aload 1 0) r (mx_G r (t_Hs_signalAt zz)) 17 ls st h c n := mx_G_eq (tm_Hs_signalAt zz) r 17 ls st h c n
theorem st_Hs_signalAt_18 (zz : Nat × Nat) (r : mx_T) (ls : mx_L) (st : List Value) (h : mx_H) (c n : Nat) : mx_G r (t_Hs_signalAt zz) 18 ls st h c n = (o_get 0 1) r (mx_G r (t_Hs_signalAt zz)) 18 ls st h c n := mx_G_eq (tm_Hs_signalAt zz) r 18 ls st h c n
theorem st_Hs_signalAt_21 (zz : Nat × Nat) (r : mx_T) (ls : mx_L) (st : List Value) (h : mx_H) (c n : Nat) : mx_G r (t_Hs_signalAt zz) 21 ls st h c n = (o_iload 1 1) r (mx_G r (t_Hs_signalAt zz)) 21 ls st h c n := mx_G_eq (tm_Hs_signalAt zz) r 21 ls st h c n
theorem st_Hs_signalAt_22 (zz : Nat × Nat) (r : mx_T) (ls : mx_L) (st : List Value) (h : mx_H) (c n : Nat) : mx_G r (t_Hs_signalAt zz) 22 ls st h c n = (o_call 0 0 2 0 0 (mx_rv 9) (S_Al_get zz)) r (mx_G r (t_Hs_signalAt zz)) 22 ls st h c n := mx_G_eq (tm_Hs_signalAt zz) r 22 ls st h c n
theorem st_Hs_signalAt_25 (zz : Nat × Nat) (r : mx_T) (ls : mx_L) (st : List Value) (h : mx_H) (c n : Nat) : mx_G r (t_Hs_signalAt zz) 25 ls st h c n = (o_cast 2) r (mx_G r (t_Hs_signalAt zz)) 25 ls st h c n := mx_G_eq (tm_Hs_signalAt zz) r 25 ls st h c n
theorem st_Hs_signalAt_28 (zz : Nat × Nat) (r : mx_T) (ls : mx_L) (st : List Value) (h : mx_H) (c n : Nat) : mx_G r (t_Hs_signalAt zz) 28 ls st h c n = (o_goto 32) r (mx_G r (t_Hs_signalAt zz)) 28 ls st h c n := mx_G_eq (tm_Hs_signalAt zz) r 28 ls st h c n
theorem st_Hs_signalAt_31 (zz : Nat × Nat) (r : mx_T) (ls : mx_L) (st : List Value) (h : mx_H) (c n : Nat) : mx_G r (t_Hs_signalAt zz) 31 ls st h c n = (o_push 1 .null) r (mx_G r (t_Hs_signalAt zz)) 31 ls st h c n := mx_G_eq (tm_Hs_signalAt zz) r 31 ls st h c n
theorem st_Hs_signalAt_32 (zz : Nat × Nat) (r : mx_T) (ls : mx_L) (st : List Value) (h : mx_H) (c n : Nat) : mx_G r (t_Hs_signalAt zz) 32 ls st h c n = (o_aret) r (mx_G r (t_Hs_signalAt zz)) 32 ls st h c n := mx_G_eq (tm_Hs_signalAt zz) r 32 ls st h c n
theorem d_Hs_write_0 : decode c_Hs_write 0 = .ok (.aload_n 0, 1) := by decide +kernel
theorem d_Hs_write_1 : decode c_Hs_write 1 = .ok (.iload_n 1, 1) := by decide +kernel
theorem d_Hs_write_2 : decode c_Hs_write 2 = .ok (.invokevirtual 167, 3) := by decide +kernel
theorem d_Hs_write_5 : decode c_Hs_write 5 = .ok (.astore_n 3, 1) := by decide +kernel
theorem d_Hs_write_6 : decode c_Hs_write 6 = .ok (.aload_n 3, 1) := by decide +kernel
theorem d_Hs_write_7 : decode c_Hs_write 7 = .ok (.ifnull 11, 3) := by decide +kernel
theorem d_Hs_write_10 : decode c_Hs_write 10 = .ok (.aload_n 3, 1) := by decide +kernel
theorem d_Hs_write_11 : decode c_Hs_write 11 = .ok (.iload_n 2, 1) := by decide +kernel
theorem d_Hs_write_12 : decode c_Hs_write 12 = .ok (.invokevirtual 103, 3) := by decide +kernel
theorem d_Hs_write_15 : decode c_Hs_write 15 = .ok (.ifCond .ne 5, 3) := by decide +kernel
theorem d_Hs_write_18 : decode c_Hs_write 18 = .ok (.iconst 0, 1) := by decide +kernel
theorem d_Hs_write_19 : decode c_Hs_write 19 = .ok (.ireturn, 1) := by decide +kernel
theorem d_Hs_write_20 : decode c_Hs_write 20 = .ok (.aload_n 3, 1) := by decide +kernel
theorem d_Hs_write_21 : decode c_Hs_write 21 = .ok (.iload_n 2, 1) := by decide +kernel
theorem d_Hs_write_22 : decode c_Hs_write 22 = .ok (.invokevirtual 106, 3) := by decide +kernel
theorem d_Hs_write_25 : decode c_Hs_write 25 = .ok (.aload_n 3, 1) := by decide +kernel
theorem d_Hs_write_26 : decode c_Hs_write 26 = .ok (.getfield 171, 3) := by decide +kernel
theorem d_Hs_write_29 : decode c_Hs_write 29 = .ok (.iconst 1, 1) := by decide +kernel
theorem d_Hs_write_30 : decode c_Hs_write 30 = .ok (.putfield 175, 3) := by decide +kernel
theorem d_Hs_write_33 : decode c_Hs_write 33 = .ok (.iconst 1, 1) := by decide +kernel
theorem d_Hs_write_34 : decode c_Hs_write 34 = .ok (.ireturn, 1) := by decide +kernel
def t_Hs_write (zz : Nat × Nat) : List (Nat × mx_O) := [(0, o_aload 1 0),
  (1, o_iload 1 1),
  (2, o_call 0 0 2 0 0 (mx_rv 0) (S_Hs_signalAt zz)),
  (5, o_astore 1 3),
  (6, o_aload 1 3),
  (7, o_ifnull 18),
  (10, o_aload 1 3),
  (11, o_iload 1 2),
  (12, o_call 0 0 2 0 0 (mx_rv 2) (S_Sg_canHold zz)),
  (15, o_if 20 (fun x => ¬ x = 0)),
  (18, o_push 1 (.int 0)),
  (19, o_zret),
  (20, o_aload 1 3),
  (21, o_iload 1 2),
  (22, o_call 0 0 2 0 0 (mx_rv 2) (S_Sg_putWritten zz)),
  (25, o_aload 1 3),
  (26, o_get 2 0),
  (29, o_push 1 (.int 1)),
  (30, o_put 1 7 mx_vZ),
  (33, o_push 1 (.int 1)),
  (34, o_zret)]
set_option maxRecDepth 100000 in
theorem tm_Hs_write (zz : Nat × Nat) : mx_All (fun _ o => mx_Mono o) (t_Hs_write zz) := by
  refine mx_all_cons (mo_st) ?_
  refine mx_all_cons (mo_st) ?_
  refine mx_all_cons (mo_call (sm_Hs_signalAt zz)) ?_
  refine mx_all_cons (mo_st) ?_
  refine mx_all_cons (mo_st) ?_
  refine mx_all_cons (mo_st) ?_
  refine mx_all_cons (mo_st) ?_
  refine mx_all_cons (mo_st) ?_
  refine mx_all_cons (mo_call (sm_Sg_canHold zz)) ?_
  refine mx_all_cons (mo_br) ?_
  refine mx_all_cons (mo_st) ?_
  refine mx_all_cons (mo_zret) ?_
  refine mx_all_cons (mo_st) ?_
  refine mx_all_cons (mo_st) ?_
  refine mx_all_cons (mo_call (sm_Sg_putWritten zz)) ?_
  refine mx_all_cons (mo_st) ?_
  refine mx_all_cons (mo_st) ?_
  refine mx_all_cons (mo_st) ?_
  refine mx_all_cons (mo_sc) ?_
  refine mx_all_cons (mo_st) ?_
  refine mx_all_cons (mo_zret) ?_
  exact mx_all_nil
def S_Hs_write (zz : Nat × Nat) : mx_Sp := mx_S 4 0 0 (t_Hs_write zz)
theorem sm_Hs_write (zz : Nat × Nat) : mx_SMono (S_Hs_write zz) := mx_S_mono (tm_Hs_write zz)
abbrev rm_Hs_write : Room := { frames := 4, cells := 0, slots := 0, locals := 85 }
set_option maxHeartbeats 4000000 in
set_option maxRecDepth 100000 in
theorem m_Hs_write (l : Launch) (zz : Nat × Nat) : mx_Met l y_Hs_write (wsOf y_Hs_write c_Hs_write 4 (some .boolean)) rm_Hs_write wcl (mx_Z zz) 0 0 (S_Hs_write zz) := by
  refine mx_met (cc := c_Hs_write) (ret := (some .boolean)) (by decide) rfl ?_
  intro p e s m args below meth c D A Post X hz hr hlk hnm
  have hm : ∀ w ∈ mw, w.before args s = true := fun w h => X.1.2.2.2.2 w (List.mem_cons_of_mem _ h)
  refine mx_all_cons (ok_aload (fun hl kk => lv_aload_n X.1.1 X.1.2.1 d_Hs_write_0 rfl hl kk) (fun hl kk => lv_aload_nN X.1.1 X.1.2.1 d_Hs_write_0 rfl hl kk)) ?_
  refine mx_all_cons (ok_iload (fun hl kk => lv_iload_n X.1.1 X.1.2.1 d_Hs_write_1 rfl hl kk)) ?_
  refine mx_all_cons (ok_callV (C := "HeaderSchedule") (T := T_Hs) (N := 11) X (mx_Zok_Z zz) hz ⟨(Nat.le_of_ble_eq_true rfl), (Nat.le_of_ble_eq_true rfl)⟩ (m_Hs_signalAt l zz) ⟨mx_cwB 1 hm w515 w512 w33 rfl rfl (by decide +kernel) ⟨(Nat.le_of_ble_eq_true rfl), (Nat.le_of_ble_eq_true rfl)⟩, (hm _ w514), hm _ w10⟩ rfl d_Hs_write_2) ?_
  refine mx_all_cons (ok_astore (fun hl kk => lv_astore_n X.1.1 X.1.2.1 d_Hs_write_5 rfl hl (by decide) rfl kk) (fun hl kk => lv_astore_nN X.1.1 X.1.2.1 d_Hs_write_5 rfl hl (by decide) rfl kk)) ?_
  refine mx_all_cons (ok_aload (fun hl kk => lv_aload_n X.1.1 X.1.2.1 d_Hs_write_6 rfl hl kk) (fun hl kk => lv_aload_nN X.1.1 X.1.2.1 d_Hs_write_6 rfl hl kk)) ?_
  refine mx_all_cons (ok_ifnull X d_Hs_write_7 (by decide)) ?_
  refine mx_all_cons (ok_aload (fun hl kk => lv_aload_n X.1.1 X.1.2.1 d_Hs_write_10 rfl hl kk) (fun hl kk => lv_aload_nN X.1.1 X.1.2.1 d_Hs_write_10 rfl hl kk)) ?_
  refine mx_all_cons (ok_iload (fun hl kk => lv_iload_n X.1.1 X.1.2.1 d_Hs_write_11 rfl hl kk)) ?_
  refine mx_all_cons (ok_callV (C := "HeaderSchedule$Signal") (T := T_Sg) (N := 5) X (mx_Zok_Z zz) hz ⟨(Nat.le_of_ble_eq_true rfl), (Nat.le_of_ble_eq_true rfl)⟩ (m_Sg_canHold l zz) ⟨mx_cwB 1 hm w373 w370 w48 rfl rfl (by decide +kernel) ⟨(Nat.le_of_ble_eq_true rfl), (Nat.le_of_ble_eq_true rfl)⟩, (hm _ w371), hm _ w372⟩ rfl d_Hs_write_12) ?_
  refine mx_all_cons (ok_if (fun kt kf => lv_if_ne X.1.1 X.1.2.1 d_Hs_write_15 (by decide) kt (fun z => kf (fun g => g z)))) ?_
  refine mx_all_cons (ok_push (fun kk => lv_iconst X.1.1 X.1.2.1 d_Hs_write_18 (by decide) kk)) ?_
  refine mx_all_cons (ok_zret X hr hlk d_Hs_write_19) ?_
  refine mx_all_cons (ok_aload (fun hl kk => lv_aload_n X.1.1 X.1.2.1 d_Hs_write_20 rfl hl kk) (fun hl kk => lv_aload_nN X.1.1 X.1.2.1 d_Hs_write_20 rfl hl kk)) ?_
  refine mx_all_cons (ok_iload (fun hl kk => lv_iload_n X.1.1 X.1.2.1 d_Hs_write_21 rfl hl kk)) ?_
  refine mx_all_cons (ok_callV (C := "HeaderSchedule$Signal") (T := T_Sg) (N := 5) X (mx_Zok_Z zz) hz ⟨(Nat.le_of_ble_eq_true rfl), (Nat.le_of_ble_eq_true rfl)⟩ (m_Sg_putWritten l zz) ⟨mx_cwB 1 hm w377 w374 w48 rfl rfl (by decide +kernel) ⟨(Nat.le_of_ble_eq_true rfl), (Nat.le_of_ble_eq_true rfl)⟩, (hm _ w375), hm _ w376⟩ rfl d_Hs_write_22) ?_
  refine mx_all_cons (ok_aload (fun hl kk => lv_aload_n X.1.1 X.1.2.1 d_Hs_write_25 rfl hl kk) (fun hl kk => lv_aload_nN X.1.1 X.1.2.1 d_Hs_write_25 rfl hl kk)) ?_
  refine mx_all_cons (ok_get (C := "HeaderSchedule$Signal") (T := T_Sg) (N := 5) X (mw_up in_Sg) rfl 0 (by decide) (hm _ w344) (fun _ h9 => h9) d_Hs_write_26) ?_
  refine mx_all_cons (ok_push (fun kk => lv_iconst X.1.1 X.1.2.1 d_Hs_write_29 (by decide) kk)) ?_
  refine mx_all_cons (ok_put (C := "HeaderSchedule$Frame") (T := T_Fr) (N := 8) X (mw_up in_Fr) ty_Fr tyok_Fr nm_Fr rfl 7 (by decide) (hm _ w239) (fun _ h9 => h9) rfl (tyok_Fr 7 (by decide)) mx_vZ_ok d_Hs_write_30) ?_
  refine mx_all_cons (ok_push (fun kk => lv_iconst X.1.1 X.1.2.1 d_Hs_write_33 (by decide) kk)) ?_
  refine mx_all_cons (ok_zret X hr hlk d_Hs_write_34) ?_
  exact mx_all_nil
theorem st_Hs_write_0 (zz : Nat × Nat) (r : mx_T) (ls : mx_L) (st : List Value) (h : mx_H) (c n : Nat) : mx_G r (t_Hs_write zz) 0 ls st h c n = (o_aload 1 0) r (mx_G r (t_Hs_write zz)) 0 ls st h c n := mx_G_eq (tm_Hs_write zz) r 0 ls st h c n
theorem st_Hs_write_1 (zz : Nat × Nat) (r : mx_T) (ls : mx_L) (st : List Value) (h : mx_H) (c n : Nat) : mx_G r (t_Hs_write zz) 1 ls st h c n = (o_iload 1 1) r (mx_G r (t_Hs_write zz)) 1 ls st h c n := mx_G_eq (tm_Hs_write zz) r 1 ls st h c n
theorem st_Hs_write_2 (zz : Nat × Nat) (r : mx_T) (ls : mx_L) (st : List Value) (h : mx_H) (c n : Nat) : mx_G r (t_Hs_write zz) 2 ls st h c n = (o_call 0 0 2 0 0 (mx_rv 0) (S_Hs_signalAt zz)) r (mx_G r (t_Hs_write zz)) 2 ls st h c n := mx_G_eq (tm_Hs_write zz) r 2 ls st h c n
theorem st_Hs_write_5 (zz : Nat × Nat) (r : mx_T) (ls : mx_L) (st : List Value) (h : mx_H) (c n : Nat) : mx_G r (t_Hs_write zz) 5 ls st h c n = (o_astore 1 3) r (mx_G r (t_Hs_write zz)) 5 ls st h c n := mx_G_eq (tm_Hs_write zz) r 5 ls st h c n
theorem st_Hs_write_6 (zz : Nat × Nat) (r : mx_T) (ls : mx_L) (st : List Value) (h : mx_H) (c n : Nat) : mx_G r (t_Hs_write zz) 6 ls st h c n = (o_aload 1 3) r (mx_G r (t_Hs_write zz)) 6 ls st h c n := mx_G_eq (tm_Hs_write zz) r 6 ls st h c n
theorem st_Hs_write_7 (zz : Nat × Nat) (r : mx_T) (ls : mx_L) (st : List Value) (h : mx_H) (c n : Nat) : mx_G r (t_Hs_write zz) 7 ls st h c n = (o_ifnull 18) r (mx_G r (t_Hs_write zz)) 7 ls st h c n := mx_G_eq (tm_Hs_write zz) r 7 ls st h c n
theorem st_Hs_write_10 (zz : Nat × Nat) (r : mx_T) (ls : mx_L) (st : List Value) (h : mx_H) (c n : Nat) : mx_G r (t_Hs_write zz) 10 ls st h c n = (o_aload 1 3) r (mx_G r (t_Hs_write zz)) 10 ls st h c n := mx_G_eq (tm_Hs_write zz) r 10 ls st h c n
theorem st_Hs_write_11 (zz : Nat × Nat) (r : mx_T) (ls : mx_L) (st : List Value) (h : mx_H) (c n : Nat) : mx_G r (t_Hs_write zz) 11 ls st h c n = (o_iload 1 2) r (mx_G r (t_Hs_write zz)) 11 ls st h c n := mx_G_eq (tm_Hs_write zz) r 11 ls st h c n
theorem st_Hs_write_12 (zz : Nat × Nat) (r : mx_T) (ls : mx_L) (st : List Value) (h : mx_H) (c n : Nat) : mx_G r (t_Hs_write zz) 12 ls st h c n = (o_call 0 0 2 0 0 (mx_rv 2) (S_Sg_canHold zz)) r (mx_G r (t_Hs_write zz)) 12 ls st h c n := mx_G_eq (tm_Hs_write zz) r 12 ls st h c n
theorem st_Hs_write_15 (zz : Nat × Nat) (r : mx_T) (ls : mx_L) (st : List Value) (h : mx_H) (c n : Nat) : mx_G r (t_Hs_write zz) 15 ls st h c n = (o_if 20 (fun x => ¬ x = 0)) r (mx_G r (t_Hs_write zz)) 15 ls st h c n := mx_G_eq (tm_Hs_write zz) r 15 ls st h c n
theorem st_Hs_write_18 (zz : Nat × Nat) (r : mx_T) (ls : mx_L) (st : List Value) (h : mx_H) (c n : Nat) : mx_G r (t_Hs_write zz) 18 ls st h c n = (o_push 1 (.int 0)) r (mx_G r (t_Hs_write zz)) 18 ls st h c n := mx_G_eq (tm_Hs_write zz) r 18 ls st h c n
theorem st_Hs_write_19 (zz : Nat × Nat) (r : mx_T) (ls : mx_L) (st : List Value) (h : mx_H) (c n : Nat) : mx_G r (t_Hs_write zz) 19 ls st h c n = (o_zret) r (mx_G r (t_Hs_write zz)) 19 ls st h c n := mx_G_eq (tm_Hs_write zz) r 19 ls st h c n
theorem st_Hs_write_20 (zz : Nat × Nat) (r : mx_T) (ls : mx_L) (st : List Value) (h : mx_H) (c n : Nat) : mx_G r (t_Hs_write zz) 20 ls st h c n = (o_aload 1 3) r (mx_G r (t_Hs_write zz)) 20 ls st h c n := mx_G_eq (tm_Hs_write zz) r 20 ls st h c n
theorem st_Hs_write_21 (zz : Nat × Nat) (r : mx_T) (ls : mx_L) (st : List Value) (h : mx_H) (c n : Nat) : mx_G r (t_Hs_write zz) 21 ls st h c n = (o_iload 1 2) r (mx_G r (t_Hs_write zz)) 21 ls st h c n := mx_G_eq (tm_Hs_write zz) r 21 ls st h c n
theorem st_Hs_write_22 (zz : Nat × Nat) (r : mx_T) (ls : mx_L) (st : List Value) (h : mx_H) (c n : Nat) : mx_G r (t_Hs_write zz) 22 ls st h c n = (o_call 0 0 2 0 0 (mx_rv 2) (S_Sg_putWritten zz)) r (mx_G r (t_Hs_write zz)) 22 ls st h c n := mx_G_eq (tm_Hs_write zz) r 22 ls st h c n
theorem st_Hs_write_25 (zz : Nat × Nat) (r : mx_T) (ls : mx_L) (st : List Value) (h : mx_H) (c n : Nat) : mx_G r (t_Hs_write zz) 25 ls st h c n = (o_aload 1 3) r (mx_G r (t_Hs_write zz)) 25 ls st h c n := mx_G_eq (tm_Hs_write zz) r 25 ls st h c n
theorem st_Hs_write_26 (zz : Nat × Nat) (r : mx_T) (ls : mx_L) (st : List Value) (h : mx_H) (c n : Nat) : mx_G r (t_Hs_write zz) 26 ls st h c n = (o_get 2 0) r (mx_G r (t_Hs_write zz)) 26 ls st h c n := mx_G_eq (tm_Hs_write zz) r 26 ls st h c n
theorem st_Hs_write_29 (zz : Nat × Nat) (r : mx_T) (ls : mx_L) (st : List Value) (h : mx_H) (c n : Nat) : mx_G r (t_Hs_write zz) 29 ls st h c n = (o_push 1 (.int 1)) r (mx_G r (t_Hs_write zz)) 29 ls st h c n := mx_G_eq (tm_Hs_write zz) r 29 ls st h c n
theorem st_Hs_write_30 (zz : Nat × Nat) (r : mx_T) (ls : mx_L) (st : List Value) (h : mx_H) (c n : Nat) : mx_G r (t_Hs_write zz) 30 ls st h c n = (o_put 1 7 mx_vZ) r (mx_G r (t_Hs_write zz)) 30 ls st h c n := mx_G_eq (tm_Hs_write zz) r 30 ls st h c n
theorem st_Hs_write_33 (zz : Nat × Nat) (r : mx_T) (ls : mx_L) (st : List Value) (h : mx_H) (c n : Nat) : mx_G r (t_Hs_write zz) 33 ls st h c n = (o_push 1 (.int 1)) r (mx_G r (t_Hs_write zz)) 33 ls st h c n := mx_G_eq (tm_Hs_write zz) r 33 ls st h c n
theorem st_Hs_write_34 (zz : Nat × Nat) (r : mx_T) (ls : mx_L) (st : List Value) (h : mx_H) (c n : Nat) : mx_G r (t_Hs_write zz) 34 ls st h c n = (o_zret) r (mx_G r (t_Hs_write zz)) 34 ls st h c n := mx_G_eq (tm_Hs_write zz) r 34 ls st h c n
theorem d_Hs_read_0 : decode c_Hs_read 0 = .ok (.aload_n 0, 1) := by decide +kernel
theorem d_Hs_read_1 : decode c_Hs_read 1 = .ok (.iload_n 1, 1) := by decide +kernel
theorem d_Hs_read_2 : decode c_Hs_read 2 = .ok (.invokevirtual 167, 3) := by decide +kernel
theorem d_Hs_read_5 : decode c_Hs_read 5 = .ok (.astore_n 2, 1) := by decide +kernel
theorem d_Hs_read_6 : decode c_Hs_read 6 = .ok (.aload_n 2, 1) := by decide +kernel
theorem d_Hs_read_7 : decode c_Hs_read 7 = .ok (.ifnonnull 7, 3) := by decide +kernel
theorem d_Hs_read_10 : decode c_Hs_read 10 = .ok (.iconst (-1), 1) := by decide +kernel
theorem d_Hs_read_11 : decode c_Hs_read 11 = .ok (.goto 7, 3) := by decide +kernel
theorem d_Hs_read_14 : decode c_Hs_read 14 = .ok (.aload_n 2, 1) := by decide +kernel
theorem d_Hs_read_15 : decode c_Hs_read 15 = .ok (.getfield 178, 3) := by decide +kernel
theorem d_Hs_read_18 : decode c_Hs_read 18 = .ok (.ireturn, 1) := by decide +kernel
def t_Hs_read (zz : Nat × Nat) : List (Nat × mx_O) := [(0, o_aload 1 0),
  (1, o_iload 1 1),
  (2, o_call 0 0 2 0 0 (mx_rv 0) (S_Hs_signalAt zz)),
  (5, o_astore 1 2),
  (6, o_aload 1 2),
  (7, o_ifnonnull 14),
  (10, o_push 1 (.int (-1))),
  (11, o_goto 18),
  (14, o_aload 1 2),
  (15, o_get 2 3),
  (18, o_iret)]
set_option maxRecDepth 100000 in
theorem tm_Hs_read (zz : Nat × Nat) : mx_All (fun _ o => mx_Mono o) (t_Hs_read zz) := by
  refine mx_all_cons (mo_st) ?_
  refine mx_all_cons (mo_st) ?_
  refine mx_all_cons (mo_call (sm_Hs_signalAt zz)) ?_
  refine mx_all_cons (mo_st) ?_
  refine mx_all_cons (mo_st) ?_
  refine mx_all_cons (mo_st) ?_
  refine mx_all_cons (mo_st) ?_
  refine mx_all_cons (mo_st) ?_
  refine mx_all_cons (mo_st) ?_
  refine mx_all_cons (mo_st) ?_
  refine mx_all_cons (mo_ret) ?_
  exact mx_all_nil
def S_Hs_read (zz : Nat × Nat) : mx_Sp := mx_S 3 0 0 (t_Hs_read zz)
theorem sm_Hs_read (zz : Nat × Nat) : mx_SMono (S_Hs_read zz) := mx_S_mono (tm_Hs_read zz)
abbrev rm_Hs_read : Room := { frames := 4, cells := 0, slots := 0, locals := 85 }
set_option maxHeartbeats 4000000 in
set_option maxRecDepth 100000 in
theorem m_Hs_read (l : Launch) (zz : Nat × Nat) : mx_Met l y_Hs_read (wsOf y_Hs_read c_Hs_read 3 (some .int)) rm_Hs_read wcl (mx_Z zz) 0 0 (S_Hs_read zz) := by
  refine mx_met (cc := c_Hs_read) (ret := (some .int)) (by decide) rfl ?_
  intro p e s m args below meth c D A Post X hz hr hlk hnm
  have hm : ∀ w ∈ mw, w.before args s = true := fun w h => X.1.2.2.2.2 w (List.mem_cons_of_mem _ h)
  refine mx_all_cons (ok_aload (fun hl kk => lv_aload_n X.1.1 X.1.2.1 d_Hs_read_0 rfl hl kk) (fun hl kk => lv_aload_nN X.1.1 X.1.2.1 d_Hs_read_0 rfl hl kk)) ?_
  refine mx_all_cons (ok_iload (fun hl kk => lv_iload_n X.1.1 X.1.2.1 d_Hs_read_1 rfl hl kk)) ?_
  refine mx_all_cons (ok_callV (C := "HeaderSchedule") (T := T_Hs) (N := 11) X (mx_Zok_Z zz) hz ⟨(Nat.le_of_ble_eq_true rfl), (Nat.le_of_ble_eq_true rfl)⟩ (m_Hs_signalAt l zz) ⟨mx_cwB 1 hm w515 w512 w33 rfl rfl (by decide +kernel) ⟨(Nat.le_of_ble_eq_true rfl), (Nat.le_of_ble_eq_true rfl)⟩, (hm _ w514), hm _ w10⟩ rfl d_Hs_read_2) ?_
  refine mx_all_cons (ok_astore (fun hl kk => lv_astore_n X.1.1 X.1.2.1 d_Hs_read_5 rfl hl (by decide) rfl kk) (fun hl kk => lv_astore_nN X.1.1 X.1.2.1 d_Hs_read_5 rfl hl (by decide) rfl kk)) ?_
  refine mx_all_cons (ok_aload (fun hl kk => lv_aload_n X.1.1 X.1.2.1 d_Hs_read_6 rfl hl kk) (fun hl kk => lv_aload_nN X.1.1 X.1.2.1 d_Hs_read_6 rfl hl kk)) ?_
  refine mx_all_cons (ok_ifnonnull X d_Hs_read_7 (by decide)) ?_
  refine mx_all_cons (ok_push (fun kk => lv_iconst X.1.1 X.1.2.1 d_Hs_read_10 (by decide) kk)) ?_
  refine mx_all_cons (ok_goto X d_Hs_read_11 (by decide)) ?_
  refine mx_all_cons (ok_aload (fun hl kk => lv_aload_n X.1.1 X.1.2.1 d_Hs_read_14 rfl hl kk) (fun hl kk => lv_aload_nN X.1.1 X.1.2.1 d_Hs_read_14 rfl hl kk)) ?_
  refine mx_all_cons (ok_get (C := "HeaderSchedule$Signal") (T := T_Sg) (N := 5) X (mw_up in_Sg) rfl 3 (by decide) (hm _ w348) (fun _ h9 => h9) d_Hs_read_15) ?_
  refine mx_all_cons (ok_iret X hr hlk d_Hs_read_18) ?_
  exact mx_all_nil
theorem st_Hs_read_0 (zz : Nat × Nat) (r : mx_T) (ls : mx_L) (st : List Value) (h : mx_H) (c n : Nat) : mx_G r (t_Hs_read zz) 0 ls st h c n = (o_aload 1 0) r (mx_G r (t_Hs_read zz)) 0 ls st h c n := mx_G_eq (tm_Hs_read zz) r 0 ls st h c n
theorem st_Hs_read_1 (zz : Nat × Nat) (r : mx_T) (ls : mx_L) (st : List Value) (h : mx_H) (c n : Nat) : mx_G r (t_Hs_read zz) 1 ls st h c n = (o_iload 1 1) r (mx_G r (t_Hs_read zz)) 1 ls st h c n := mx_G_eq (tm_Hs_read zz) r 1 ls st h c n
theorem st_Hs_read_2 (zz : Nat × Nat) (r : mx_T) (ls : mx_L) (st : List Value) (h : mx_H) (c n : Nat) : mx_G r (t_Hs_read zz) 2 ls st h c n = (o_call 0 0 2 0 0 (mx_rv 0) (S_Hs_signalAt zz)) r (mx_G r (t_Hs_read zz)) 2 ls st h c n := mx_G_eq (tm_Hs_read zz) r 2 ls st h c n
theorem st_Hs_read_5 (zz : Nat × Nat) (r : mx_T) (ls : mx_L) (st : List Value) (h : mx_H) (c n : Nat) : mx_G r (t_Hs_read zz) 5 ls st h c n = (o_astore 1 2) r (mx_G r (t_Hs_read zz)) 5 ls st h c n := mx_G_eq (tm_Hs_read zz) r 5 ls st h c n
theorem st_Hs_read_6 (zz : Nat × Nat) (r : mx_T) (ls : mx_L) (st : List Value) (h : mx_H) (c n : Nat) : mx_G r (t_Hs_read zz) 6 ls st h c n = (o_aload 1 2) r (mx_G r (t_Hs_read zz)) 6 ls st h c n := mx_G_eq (tm_Hs_read zz) r 6 ls st h c n
theorem st_Hs_read_7 (zz : Nat × Nat) (r : mx_T) (ls : mx_L) (st : List Value) (h : mx_H) (c n : Nat) : mx_G r (t_Hs_read zz) 7 ls st h c n = (o_ifnonnull 14) r (mx_G r (t_Hs_read zz)) 7 ls st h c n := mx_G_eq (tm_Hs_read zz) r 7 ls st h c n
theorem st_Hs_read_10 (zz : Nat × Nat) (r : mx_T) (ls : mx_L) (st : List Value) (h : mx_H) (c n : Nat) : mx_G r (t_Hs_read zz) 10 ls st h c n = (o_push 1 (.int (-1))) r (mx_G r (t_Hs_read zz)) 10 ls st h c n := mx_G_eq (tm_Hs_read zz) r 10 ls st h c n
theorem st_Hs_read_11 (zz : Nat × Nat) (r : mx_T) (ls : mx_L) (st : List Value) (h : mx_H) (c n : Nat) : mx_G r (t_Hs_read zz) 11 ls st h c n = (o_goto 18) r (mx_G r (t_Hs_read zz)) 11 ls st h c n := mx_G_eq (tm_Hs_read zz) r 11 ls st h c n
theorem st_Hs_read_14 (zz : Nat × Nat) (r : mx_T) (ls : mx_L) (st : List Value) (h : mx_H) (c n : Nat) : mx_G r (t_Hs_read zz) 14 ls st h c n = (o_aload 1 2) r (mx_G r (t_Hs_read zz)) 14 ls st h c n := mx_G_eq (tm_Hs_read zz) r 14 ls st h c n
theorem st_Hs_read_15 (zz : Nat × Nat) (r : mx_T) (ls : mx_L) (st : List Value) (h : mx_H) (c n : Nat) : mx_G r (t_Hs_read zz) 15 ls st h c n = (o_get 2 3) r (mx_G r (t_Hs_read zz)) 15 ls st h c n := mx_G_eq (tm_Hs_read zz) r 15 ls st h c n
theorem st_Hs_read_18 (zz : Nat × Nat) (r : mx_T) (ls : mx_L) (st : List Value) (h : mx_H) (c n : Nat) : mx_G r (t_Hs_read zz) 18 ls st h c n = (o_iret) r (mx_G r (t_Hs_read zz)) 18 ls st h c n := mx_G_eq (tm_Hs_read zz) r 18 ls st h c n
theorem d_Hs_fresh_0 : decode c_Hs_fresh 0 = .ok (.aload_n 0, 1) := by decide +kernel
theorem d_Hs_fresh_1 : decode c_Hs_fresh 1 = .ok (.iload_n 1, 1) := by decide +kernel
theorem d_Hs_fresh_2 : decode c_Hs_fresh 2 = .ok (.invokevirtual 167, 3) := by decide +kernel
theorem d_Hs_fresh_5 : decode c_Hs_fresh 5 = .ok (.astore_n 2, 1) := by decide +kernel
theorem d_Hs_fresh_6 : decode c_Hs_fresh 6 = .ok (.aload_n 2, 1) := by decide +kernel
theorem d_Hs_fresh_7 : decode c_Hs_fresh 7 = .ok (.ifnonnull 5, 3) := by decide +kernel
theorem d_Hs_fresh_10 : decode c_Hs_fresh 10 = .ok (.iconst 0, 1) := by decide +kernel
theorem d_Hs_fresh_11 : decode c_Hs_fresh 11 = .ok (.ireturn, 1) := by decide +kernel
theorem d_Hs_fresh_12 : decode c_Hs_fresh 12 = .ok (.aload_n 2, 1) := by decide +kernel
theorem d_Hs_fresh_13 : decode c_Hs_fresh 13 = .ok (.getfield 181, 3) := by decide +kernel
theorem d_Hs_fresh_16 : decode c_Hs_fresh 16 = .ok (.istore_n 3, 1) := by decide +kernel
theorem d_Hs_fresh_17 : decode c_Hs_fresh 17 = .ok (.aload_n 2, 1) := by decide +kernel
theorem d_Hs_fresh_18 : decode c_Hs_fresh 18 = .ok (.iconst 0, 1) := by decide +kernel
theorem d_Hs_fresh_19 : decode c_Hs_fresh 19 = .ok (.putfield 181, 3) := by decide +kernel
theorem d_Hs_fresh_22 : decode c_Hs_fresh 22 = .ok (.iload_n 3, 1) := by decide +kernel
theorem d_Hs_fresh_23 : decode c_Hs_fresh 23 = .ok (.ireturn, 1) := by decide +kernel
def t_Hs_fresh (zz : Nat × Nat) : List (Nat × mx_O) := [(0, o_aload 1 0),
  (1, o_iload 1 1),
  (2, o_call 0 0 2 0 0 (mx_rv 0) (S_Hs_signalAt zz)),
  (5, o_astore 1 2),
  (6, o_aload 1 2),
  (7, o_ifnonnull 12),
  (10, o_push 1 (.int 0)),
  (11, o_zret),
  (12, o_aload 1 2),
  (13, o_get 2 4),
  (16, o_istore 1 3),
  (17, o_aload 1 2),
  (18, o_push 1 (.int 0)),
  (19, o_put 2 4 mx_vZ),
  (22, o_iload 1 3),
  (23, o_zret)]
set_option maxRecDepth 100000 in
theorem tm_Hs_fresh (zz : Nat × Nat) : mx_All (fun _ o => mx_Mono o) (t_Hs_fresh zz) := by
  refine mx_all_cons (mo_st) ?_
  refine mx_all_cons (mo_st) ?_
  refine mx_all_cons (mo_call (sm_Hs_signalAt zz)) ?_
  refine mx_all_cons (mo_st) ?_
  refine mx_all_cons (mo_st) ?_
  refine mx_all_cons (mo_st) ?_
  refine mx_all_cons (mo_st) ?_
  refine mx_all_cons (mo_zret) ?_
  refine mx_all_cons (mo_st) ?_
  refine mx_all_cons (mo_st) ?_
  refine mx_all_cons (mo_st) ?_
  refine mx_all_cons (mo_st) ?_
  refine mx_all_cons (mo_st) ?_
  refine mx_all_cons (mo_sc) ?_
  refine mx_all_cons (mo_st) ?_
  refine mx_all_cons (mo_zret) ?_
  exact mx_all_nil
def S_Hs_fresh (zz : Nat × Nat) : mx_Sp := mx_S 4 0 0 (t_Hs_fresh zz)
theorem sm_Hs_fresh (zz : Nat × Nat) : mx_SMono (S_Hs_fresh zz) := mx_S_mono (tm_Hs_fresh zz)
abbrev rm_Hs_fresh : Room := { frames := 4, cells := 0, slots := 0, locals := 85 }
set_option maxHeartbeats 4000000 in
set_option maxRecDepth 100000 in
theorem m_Hs_fresh (l : Launch) (zz : Nat × Nat) : mx_Met l y_Hs_fresh (wsOf y_Hs_fresh c_Hs_fresh 4 (some .boolean)) rm_Hs_fresh wcl (mx_Z zz) 0 0 (S_Hs_fresh zz) := by
  refine mx_met (cc := c_Hs_fresh) (ret := (some .boolean)) (by decide) rfl ?_
  intro p e s m args below meth c D A Post X hz hr hlk hnm
  have hm : ∀ w ∈ mw, w.before args s = true := fun w h => X.1.2.2.2.2 w (List.mem_cons_of_mem _ h)
  refine mx_all_cons (ok_aload (fun hl kk => lv_aload_n X.1.1 X.1.2.1 d_Hs_fresh_0 rfl hl kk) (fun hl kk => lv_aload_nN X.1.1 X.1.2.1 d_Hs_fresh_0 rfl hl kk)) ?_
  refine mx_all_cons (ok_iload (fun hl kk => lv_iload_n X.1.1 X.1.2.1 d_Hs_fresh_1 rfl hl kk)) ?_
  refine mx_all_cons (ok_callV (C := "HeaderSchedule") (T := T_Hs) (N := 11) X (mx_Zok_Z zz) hz ⟨(Nat.le_of_ble_eq_true rfl), (Nat.le_of_ble_eq_true rfl)⟩ (m_Hs_signalAt l zz) ⟨mx_cwB 1 hm w515 w512 w33 rfl rfl (by decide +kernel) ⟨(Nat.le_of_ble_eq_true rfl), (Nat.le_of_ble_eq_true rfl)⟩, (hm _ w514), hm _ w10⟩ rfl d_Hs_fresh_2) ?_
  refine mx_all_cons (ok_astore (fun hl kk => lv_astore_n X.1.1 X.1.2.1 d_Hs_fresh_5 rfl hl (by decide) rfl kk) (fun hl kk => lv_astore_nN X.1.1 X.1.2.1 d_Hs_fresh_5 rfl hl (by decide) rfl kk)) ?_
  refine mx_all_cons (ok_aload (fun hl kk => lv_aload_n X.1.1 X.1.2.1 d_Hs_fresh_6 rfl hl kk) (fun hl kk => lv_aload_nN X.1.1 X.1.2.1 d_Hs_fresh_6 rfl hl kk)) ?_
  refine mx_all_cons (ok_ifnonnull X d_Hs_fresh_7 (by decide)) ?_
  refine mx_all_cons (ok_push (fun kk => lv_iconst X.1.1 X.1.2.1 d_Hs_fresh_10 (by decide) kk)) ?_
  refine mx_all_cons (ok_zret X hr hlk d_Hs_fresh_11) ?_
  refine mx_all_cons (ok_aload (fun hl kk => lv_aload_n X.1.1 X.1.2.1 d_Hs_fresh_12 rfl hl kk) (fun hl kk => lv_aload_nN X.1.1 X.1.2.1 d_Hs_fresh_12 rfl hl kk)) ?_
  refine mx_all_cons (ok_get (C := "HeaderSchedule$Signal") (T := T_Sg) (N := 5) X (mw_up in_Sg) rfl 4 (by decide) (hm _ w350) (fun _ h9 => h9) d_Hs_fresh_13) ?_
  refine mx_all_cons (ok_istore (fun hl kk => lv_istore_n X.1.1 X.1.2.1 d_Hs_fresh_16 rfl hl (by decide) rfl kk)) ?_
  refine mx_all_cons (ok_aload (fun hl kk => lv_aload_n X.1.1 X.1.2.1 d_Hs_fresh_17 rfl hl kk) (fun hl kk => lv_aload_nN X.1.1 X.1.2.1 d_Hs_fresh_17 rfl hl kk)) ?_
  refine mx_all_cons (ok_push (fun kk => lv_iconst X.1.1 X.1.2.1 d_Hs_fresh_18 (by decide) kk)) ?_
  refine mx_all_cons (ok_put (C := "HeaderSchedule$Signal") (T := T_Sg) (N := 5) X (mw_up in_Sg) ty_Sg tyok_Sg nm_Sg rfl 4 (by decide) (hm _ w350) (fun _ h9 => h9) rfl (tyok_Sg 4 (by decide)) mx_vZ_ok d_Hs_fresh_19) ?_
  refine mx_all_cons (ok_iload (fun hl kk => lv_iload_n X.1.1 X.1.2.1 d_Hs_fresh_22 rfl hl kk)) ?_
  refine mx_all_cons (ok_zret X hr hlk d_Hs_fresh_23) ?_
  exact mx_all_nil
theorem st_Hs_fresh_0 (zz : Nat × Nat) (r : mx_T) (ls : mx_L) (st : List Value) (h : mx_H) (c n : Nat) : mx_G r (t_Hs_fresh zz) 0 ls st h c n = (o_aload 1 0) r (mx_G r (t_Hs_fresh zz)) 0 ls st h c n := mx_G_eq (tm_Hs_fresh zz) r 0 ls st h c n
theorem st_Hs_fresh_1 (zz : Nat × Nat) (r : mx_T) (ls : mx_L) (st : List Value) (h : mx_H) (c n : Nat) : mx_G r (t_Hs_fresh zz) 1 ls st h c n = (o_iload 1 1) r (mx_G r (t_Hs_fresh zz)) 1 ls st h c n := mx_G_eq (tm_Hs_fresh zz) r 1 ls st h c n
theorem st_Hs_fresh_2 (zz : Nat × Nat) (r : mx_T) (ls : mx_L) (st : List Value) (h : mx_H) (c n : Nat) : mx_G r (t_Hs_fresh zz) 2 ls st h c n = (o_call 0 0 2 0 0 (mx_rv 0) (S_Hs_signalAt zz)) r (mx_G r (t_Hs_fresh zz)) 2 ls st h c n := mx_G_eq (tm_Hs_fresh zz) r 2 ls st h c n
theorem st_Hs_fresh_5 (zz : Nat × Nat) (r : mx_T) (ls : mx_L) (st : List Value) (h : mx_H) (c n : Nat) : mx_G r (t_Hs_fresh zz) 5 ls st h c n = (o_astore 1 2) r (mx_G r (t_Hs_fresh zz)) 5 ls st h c n := mx_G_eq (tm_Hs_fresh zz) r 5 ls st h c n
theorem st_Hs_fresh_6 (zz : Nat × Nat) (r : mx_T) (ls : mx_L) (st : List Value) (h : mx_H) (c n : Nat) : mx_G r (t_Hs_fresh zz) 6 ls st h c n = (o_aload 1 2) r (mx_G r (t_Hs_fresh zz)) 6 ls st h c n := mx_G_eq (tm_Hs_fresh zz) r 6 ls st h c n
theorem st_Hs_fresh_7 (zz : Nat × Nat) (r : mx_T) (ls : mx_L) (st : List Value) (h : mx_H) (c n : Nat) : mx_G r (t_Hs_fresh zz) 7 ls st h c n = (o_ifnonnull 12) r (mx_G r (t_Hs_fresh zz)) 7 ls st h c n := mx_G_eq (tm_Hs_fresh zz) r 7 ls st h c n
theorem st_Hs_fresh_10 (zz : Nat × Nat) (r : mx_T) (ls : mx_L) (st : List Value) (h : mx_H) (c n : Nat) : mx_G r (t_Hs_fresh zz) 10 ls st h c n = (o_push 1 (.int 0)) r (mx_G r (t_Hs_fresh zz)) 10 ls st h c n := mx_G_eq (tm_Hs_fresh zz) r 10 ls st h c n
theorem st_Hs_fresh_11 (zz : Nat × Nat) (r : mx_T) (ls : mx_L) (st : List Value) (h : mx_H) (c n : Nat) : mx_G r (t_Hs_fresh zz) 11 ls st h c n = (o_zret) r (mx_G r (t_Hs_fresh zz)) 11 ls st h c n := mx_G_eq (tm_Hs_fresh zz) r 11 ls st h c n
theorem st_Hs_fresh_12 (zz : Nat × Nat) (r : mx_T) (ls : mx_L) (st : List Value) (h : mx_H) (c n : Nat) : mx_G r (t_Hs_fresh zz) 12 ls st h c n = (o_aload 1 2) r (mx_G r (t_Hs_fresh zz)) 12 ls st h c n := mx_G_eq (tm_Hs_fresh zz) r 12 ls st h c n
theorem st_Hs_fresh_13 (zz : Nat × Nat) (r : mx_T) (ls : mx_L) (st : List Value) (h : mx_H) (c n : Nat) : mx_G r (t_Hs_fresh zz) 13 ls st h c n = (o_get 2 4) r (mx_G r (t_Hs_fresh zz)) 13 ls st h c n := mx_G_eq (tm_Hs_fresh zz) r 13 ls st h c n
theorem st_Hs_fresh_16 (zz : Nat × Nat) (r : mx_T) (ls : mx_L) (st : List Value) (h : mx_H) (c n : Nat) : mx_G r (t_Hs_fresh zz) 16 ls st h c n = (o_istore 1 3) r (mx_G r (t_Hs_fresh zz)) 16 ls st h c n := mx_G_eq (tm_Hs_fresh zz) r 16 ls st h c n
theorem st_Hs_fresh_17 (zz : Nat × Nat) (r : mx_T) (ls : mx_L) (st : List Value) (h : mx_H) (c n : Nat) : mx_G r (t_Hs_fresh zz) 17 ls st h c n = (o_aload 1 2) r (mx_G r (t_Hs_fresh zz)) 17 ls st h c n := mx_G_eq (tm_Hs_fresh zz) r 17 ls st h c n
theorem st_Hs_fresh_18 (zz : Nat × Nat) (r : mx_T) (ls : mx_L) (st : List Value) (h : mx_H) (c n : Nat) : mx_G r (t_Hs_fresh zz) 18 ls st h c n = (o_push 1 (.int 0)) r (mx_G r (t_Hs_fresh zz)) 18 ls st h c n := mx_G_eq (tm_Hs_fresh zz) r 18 ls st h c n
theorem st_Hs_fresh_19 (zz : Nat × Nat) (r : mx_T) (ls : mx_L) (st : List Value) (h : mx_H) (c n : Nat) : mx_G r (t_Hs_fresh zz) 19 ls st h c n = (o_put 2 4 mx_vZ) r (mx_G r (t_Hs_fresh zz)) 19 ls st h c n := mx_G_eq (tm_Hs_fresh zz) r 19 ls st h c n
theorem st_Hs_fresh_22 (zz : Nat × Nat) (r : mx_T) (ls : mx_L) (st : List Value) (h : mx_H) (c n : Nat) : mx_G r (t_Hs_fresh zz) 22 ls st h c n = (o_iload 1 3) r (mx_G r (t_Hs_fresh zz)) 22 ls st h c n := mx_G_eq (tm_Hs_fresh zz) r 22 ls st h c n
theorem st_Hs_fresh_23 (zz : Nat × Nat) (r : mx_T) (ls : mx_L) (st : List Value) (h : mx_H) (c n : Nat) : mx_G r (t_Hs_fresh zz) 23 ls st h c n = (o_zret) r (mx_G r (t_Hs_fresh zz)) 23 ls st h c n := mx_G_eq (tm_Hs_fresh zz) r 23 ls st h c n
