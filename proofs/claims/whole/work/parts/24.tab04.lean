theorem d_Ev_hasPending_0 : decode c_Ev_hasPending 0 = .ok (.aload_n 0, 1) := by decide +kernel
theorem d_Ev_hasPending_1 : decode c_Ev_hasPending 1 = .ok (.getfield 15, 3) := by decide +kernel
theorem d_Ev_hasPending_4 : decode c_Ev_hasPending 4 = .ok (.astore_n 1, 1) := by decide +kernel
theorem d_Ev_hasPending_5 : decode c_Ev_hasPending 5 = .ok (.aload_n 1, 1) := by decide +kernel
theorem d_Ev_hasPending_6 : decode c_Ev_hasPending 6 = .ok (.arraylength, 1) := by decide +kernel
theorem d_Ev_hasPending_7 : decode c_Ev_hasPending 7 = .ok (.istore_n 2, 1) := by decide +kernel
theorem d_Ev_hasPending_8 : decode c_Ev_hasPending 8 = .ok (.iconst 0, 1) := by decide +kernel
theorem d_Ev_hasPending_9 : decode c_Ev_hasPending 9 = .ok (.istore_n 3, 1) := by decide +kernel
theorem d_Ev_hasPending_10 : decode c_Ev_hasPending 10 = .ok (.iload_n 3, 1) := by decide +kernel
theorem d_Ev_hasPending_11 : decode c_Ev_hasPending 11 = .ok (.iload_n 2, 1) := by decide +kernel
theorem d_Ev_hasPending_12 : decode c_Ev_hasPending 12 = .ok (.if_icmp .ge 24, 3) := by decide +kernel
theorem d_Ev_hasPending_15 : decode c_Ev_hasPending 15 = .ok (.aload_n 1, 1) := by decide +kernel
theorem d_Ev_hasPending_16 : decode c_Ev_hasPending 16 = .ok (.iload_n 3, 1) := by decide +kernel
theorem d_Ev_hasPending_17 : decode c_Ev_hasPending 17 = .ok (.aaload, 1) := by decide +kernel
theorem d_Ev_hasPending_18 : decode c_Ev_hasPending 18 = .ok (.astore 4, 2) := by decide +kernel
theorem d_Ev_hasPending_20 : decode c_Ev_hasPending 20 = .ok (.aload 4, 2) := by decide +kernel
theorem d_Ev_hasPending_22 : decode c_Ev_hasPending 22 = .ok (.getfield 22, 3) := by decide +kernel
theorem d_Ev_hasPending_25 : decode c_Ev_hasPending 25 = .ok (.ifCond .eq 5, 3) := by decide +kernel
theorem d_Ev_hasPending_28 : decode c_Ev_hasPending 28 = .ok (.iconst 1, 1) := by decide +kernel
theorem d_Ev_hasPending_29 : decode c_Ev_hasPending 29 = .ok (.ireturn, 1) := by decide +kernel
theorem d_Ev_hasPending_30 : decode c_Ev_hasPending 30 = .ok (.iinc 3 1, 3) := by decide +kernel
theorem d_Ev_hasPending_33 : decode c_Ev_hasPending 33 = .ok (.goto (-23), 3) := by decide +kernel
theorem d_Ev_hasPending_36 : decode c_Ev_hasPending 36 = .ok (.iconst 0, 1) := by decide +kernel
theorem d_Ev_hasPending_37 : decode c_Ev_hasPending 37 = .ok (.ireturn, 1) := by decide +kernel
def t_Ev_hasPending (zz : Nat × Nat) : List (Nat × mx_O) := [(0, o_aload 1 0),
  (1, o_get 4 1),
  (4, o_astore 1 1),
  (5, o_aload 1 1),
  (6, o_alen),
  (7, o_istore 1 2),
  (8, o_push 1 (.int 0)),
  (9, o_istore 1 3),
  (10, o_iload 1 3),
  (11, o_iload 1 2),
  (12, o_icmp 36 (fun x y => y ≤ x)),
  (15, o_aload 1 1),
  (16, o_iload 1 3),
  (17, o_aald),
  (18, o_astore 2 4),
  (20, o_aload 2 4),
  (22, o_get 1 7),
  (25, o_if 30 (fun x => x = 0)),
  (28, o_push 1 (.int 1)),
  (29, o_zret),
  (30, o_iinc 3 1),
  (33, o_goto 10),
  (36, o_push 1 (.int 0)),
  (37, o_zret)]
set_option maxRecDepth 100000 in
theorem tm_Ev_hasPending (zz : Nat × Nat) : mx_All (fun _ o => mx_Mono o) (t_Ev_hasPending zz) := by
  refine mx_all_cons (mo_st) ?_
  refine mx_all_cons (mo_st) ?_
  refine mx_all_cons (mo_st) ?_
  refine mx_all_cons (mo_st) ?_
  refine mx_all_cons (mo_st) ?_
  refine mx_all_cons (mo_st) ?_
  refine mx_all_cons (mo_st) ?_
  refine mx_all_cons (mo_st) ?_
  refine mx_all_cons (mo_st) ?_
  refine mx_all_cons (mo_st) ?_
  refine mx_all_cons (mo_br) ?_
  refine mx_all_cons (mo_st) ?_
  refine mx_all_cons (mo_st) ?_
  refine mx_all_cons (mo_sc) ?_
  refine mx_all_cons (mo_st) ?_
  refine mx_all_cons (mo_st) ?_
  refine mx_all_cons (mo_st) ?_
  refine mx_all_cons (mo_br) ?_
  refine mx_all_cons (mo_st) ?_
  refine mx_all_cons (mo_zret) ?_
  refine mx_all_cons (mo_st) ?_
  refine mx_all_cons (mo_st) ?_
  refine mx_all_cons (mo_st) ?_
  refine mx_all_cons (mo_zret) ?_
  exact mx_all_nil
def S_Ev_hasPending (zz : Nat × Nat) : mx_Sp := mx_S 5 0 0 (t_Ev_hasPending zz)
theorem sm_Ev_hasPending (zz : Nat × Nat) : mx_SMono (S_Ev_hasPending zz) := mx_S_mono (tm_Ev_hasPending zz)
abbrev rm_Ev_hasPending : Room := { frames := 0, cells := 0, slots := 0, locals := 0 }
set_option maxHeartbeats 4000000 in
set_option maxRecDepth 100000 in
theorem m_Ev_hasPending (l : Launch) (zz : Nat × Nat) : mx_Met l y_Ev_hasPending (wsOf y_Ev_hasPending c_Ev_hasPending 5 (some .boolean)) rm_Ev_hasPending wcl (mx_Z zz) 0 0 (S_Ev_hasPending zz) := by
  refine mx_met (cc := c_Ev_hasPending) (ret := (some .boolean)) (by decide) rfl ?_
  intro p e s m args below meth c D A Post X hz hr hlk hnm
  have hm : ∀ w ∈ mw, w.before args s = true := fun w h => X.1.2.2.2.2 w (List.mem_cons_of_mem _ h)
  refine mx_all_cons (ok_aload (fun hl kk => lv_aload_n X.1.1 X.1.2.1 d_Ev_hasPending_0 rfl hl kk) (fun hl kk => lv_aload_nN X.1.1 X.1.2.1 d_Ev_hasPending_0 rfl hl kk)) ?_
  refine mx_all_cons (ok_get (C := "HeaderSchedule$Event") (T := T_Ev) (N := 3) X (mw_up in_Ev) rfl 1 (by decide) (hm _ w436) (fun _ h9 => h9) d_Ev_hasPending_1) ?_
  refine mx_all_cons (ok_astore (fun hl kk => lv_astore_n X.1.1 X.1.2.1 d_Ev_hasPending_4 rfl hl (by decide) rfl kk) (fun hl kk => lv_astore_nN X.1.1 X.1.2.1 d_Ev_hasPending_4 rfl hl (by decide) rfl kk)) ?_
  refine mx_all_cons (ok_aload (fun hl kk => lv_aload_n X.1.1 X.1.2.1 d_Ev_hasPending_5 rfl hl kk) (fun hl kk => lv_aload_nN X.1.1 X.1.2.1 d_Ev_hasPending_5 rfl hl kk)) ?_
  refine mx_all_cons (ok_alen X d_Ev_hasPending_6) ?_
  refine mx_all_cons (ok_istore (fun hl kk => lv_istore_n X.1.1 X.1.2.1 d_Ev_hasPending_7 rfl hl (by decide) rfl kk)) ?_
  refine mx_all_cons (ok_push (fun kk => lv_iconst X.1.1 X.1.2.1 d_Ev_hasPending_8 (by decide) kk)) ?_
  refine mx_all_cons (ok_istore (fun hl kk => lv_istore_n X.1.1 X.1.2.1 d_Ev_hasPending_9 rfl hl (by decide) rfl kk)) ?_
  refine mx_all_cons (ok_iload (fun hl kk => lv_iload_n X.1.1 X.1.2.1 d_Ev_hasPending_10 rfl hl kk)) ?_
  refine mx_all_cons (ok_iload (fun hl kk => lv_iload_n X.1.1 X.1.2.1 d_Ev_hasPending_11 rfl hl kk)) ?_
  refine mx_all_cons (ok_icmp (fun kt kf => lv_icmp_ge X.1.1 X.1.2.1 d_Ev_hasPending_12 (by decide) kt kf)) ?_
  refine mx_all_cons (ok_aload (fun hl kk => lv_aload_n X.1.1 X.1.2.1 d_Ev_hasPending_15 rfl hl kk) (fun hl kk => lv_aload_nN X.1.1 X.1.2.1 d_Ev_hasPending_15 rfl hl kk)) ?_
  refine mx_all_cons (ok_iload (fun hl kk => lv_iload_n X.1.1 X.1.2.1 d_Ev_hasPending_16 rfl hl kk)) ?_
  refine mx_all_cons (ok_aald X d_Ev_hasPending_17) ?_
  refine mx_all_cons (ok_astore (fun hl kk => lv_astore X.1.1 X.1.2.1 d_Ev_hasPending_18 hl (by decide) rfl kk) (fun hl kk => lv_astoreN X.1.1 X.1.2.1 d_Ev_hasPending_18 hl (by decide) rfl kk)) ?_
  refine mx_all_cons (ok_aload (fun hl kk => lv_aload X.1.1 X.1.2.1 d_Ev_hasPending_20 hl kk) (fun hl kk => lv_aloadN X.1.1 X.1.2.1 d_Ev_hasPending_20 hl kk)) ?_
  refine mx_all_cons (ok_get (C := "HeaderSchedule$Frame") (T := T_Fr) (N := 8) X (mw_up in_Fr) rfl 7 (by decide) (hm _ w238) (fun _ h9 => h9) d_Ev_hasPending_22) ?_
  refine mx_all_cons (ok_if (fun kt kf => lv_if_eq X.1.1 X.1.2.1 d_Ev_hasPending_25 (by decide) kt kf)) ?_
  refine mx_all_cons (ok_push (fun kk => lv_iconst X.1.1 X.1.2.1 d_Ev_hasPending_28 (by decide) kk)) ?_
  refine mx_all_cons (ok_zret X hr hlk d_Ev_hasPending_29) ?_
  refine mx_all_cons (ok_iinc X (by decide) (by decide) d_Ev_hasPending_30) ?_
  refine mx_all_cons (ok_goto X d_Ev_hasPending_33 (by decide)) ?_
  refine mx_all_cons (ok_push (fun kk => lv_iconst X.1.1 X.1.2.1 d_Ev_hasPending_36 (by decide) kk)) ?_
  refine mx_all_cons (ok_zret X hr hlk d_Ev_hasPending_37) ?_
  exact mx_all_nil
theorem st_Ev_hasPending_0 (zz : Nat × Nat) (r : mx_T) (ls : mx_L) (st : List Value) (h : mx_H) (c n : Nat) : mx_G r (t_Ev_hasPending zz) 0 ls st h c n = (o_aload 1 0) r (mx_G r (t_Ev_hasPending zz)) 0 ls st h c n := mx_G_eq (tm_Ev_hasPending zz) r 0 ls st h c n
theorem st_Ev_hasPending_1 (zz : Nat × Nat) (r : mx_T) (ls : mx_L) (st : List Value) (h : mx_H) (c n : Nat) : mx_G r (t_Ev_hasPending zz) 1 ls st h c n = (o_get 4 1) r (mx_G r (t_Ev_hasPending zz)) 1 ls st h c n := mx_G_eq (tm_Ev_hasPending zz) r 1 ls st h c n
theorem st_Ev_hasPending_4 (zz : Nat × Nat) (r : mx_T) (ls : mx_L) (st : List Value) (h : mx_H) (c n : Nat) : mx_G r (t_Ev_hasPending zz) 4 ls st h c n = (o_astore 1 1) r (mx_G r (t_Ev_hasPending zz)) 4 ls st h c n := mx_G_eq (tm_Ev_hasPending zz) r 4 ls st h c n
theorem st_Ev_hasPending_5 (zz : Nat × Nat) (r : mx_T) (ls : mx_L) (st : List Value) (h : mx_H) (c n : Nat) : mx_G r (t_Ev_hasPending zz) 5 ls st h c n = (o_aload 1 1) r (mx_G r (t_Ev_hasPending zz)) 5 ls st h c n := mx_G_eq (tm_Ev_hasPending zz) r 5 ls st h c n
theorem st_Ev_hasPending_6 (zz : Nat × Nat) (r : mx_T) (ls : mx_L) (st : List Value) (h : mx_H) (c n : Nat) : mx_G r (t_Ev_hasPending zz) 6 ls st h c n = (o_alen) r (mx_G r (t_Ev_hasPending zz)) 6 ls st h c n := mx_G_eq (tm_Ev_hasPending zz) r 6 ls st h c n
theorem st_Ev_hasPending_7 (zz : Nat × Nat) (r : mx_T) (ls : mx_L) (st : List Value) (h : mx_H) (c n : Nat) : mx_G r (t_Ev_hasPending zz) 7 ls st h c n = (o_istore 1 2) r (mx_G r (t_Ev_hasPending zz)) 7 ls st h c n := mx_G_eq (tm_Ev_hasPending zz) r 7 ls st h c n
theorem st_Ev_hasPending_8 (zz : Nat × Nat) (r : mx_T) (ls : mx_L) (st : List Value) (h : mx_H) (c n : Nat) : mx_G r (t_Ev_hasPending zz) 8 ls st h c n = (o_push 1 (.int 0)) r (mx_G r (t_Ev_hasPending zz)) 8 ls st h c n := mx_G_eq (tm_Ev_hasPending zz) r 8 ls st h c n
theorem st_Ev_hasPending_9 (zz : Nat × Nat) (r : mx_T) (ls : mx_L) (st : List Value) (h : mx_H) (c n : Nat) : mx_G r (t_Ev_hasPending zz) 9 ls st h c n = (o_istore 1 3) r (mx_G r (t_Ev_hasPending zz)) 9 ls st h c n := mx_G_eq (tm_Ev_hasPending zz) r 9 ls st h c n
theorem st_Ev_hasPending_10 (zz : Nat × Nat) (r : mx_T) (ls : mx_L) (st : List Value) (h : mx_H) (c n : Nat) : mx_G r (t_Ev_hasPending zz) 10 ls st h c n = (o_iload 1 3) r (mx_G r (t_Ev_hasPending zz)) 10 ls st h c n := mx_G_eq (tm_Ev_hasPending zz) r 10 ls st h c n
theorem st_Ev_hasPending_11 (zz : Nat × Nat) (r : mx_T) (ls : mx_L) (st : List Value) (h : mx_H) (c n : Nat) : mx_G r (t_Ev_hasPending zz) 11 ls st h c n = (o_iload 1 2) r (mx_G r (t_Ev_hasPending zz)) 11 ls st h c n := mx_G_eq (tm_Ev_hasPending zz) r 11 ls st h c n
theorem st_Ev_hasPending_12 (zz : Nat × Nat) (r : mx_T) (ls : mx_L) (st : List Value) (h : mx_H) (c n : Nat) : mx_G r (t_Ev_hasPending zz) 12 ls st h c n = (o_icmp 36 (fun x y => y ≤ x)) r (mx_G r (t_Ev_hasPending zz)) 12 ls st h c n := mx_G_eq (tm_Ev_hasPending zz) r 12 ls st h c n
theorem st_Ev_hasPending_15 (zz : Nat × Nat) (r : mx_T) (ls : mx_L) (st : List Value) (h : mx_H) (c n : Nat) : mx_G r (t_Ev_hasPending zz) 15 ls st h c n = (o_aload 1 1) r (mx_G r (t_Ev_hasPending zz)) 15 ls st h c n := mx_G_eq (tm_Ev_hasPending zz) r 15 ls st h c n
theorem st_Ev_hasPending_16 (zz : Nat × Nat) (r : mx_T) (ls : mx_L) (st : List Value) (h : mx_H) (c n : Nat) : mx_G r (t_Ev_hasPending zz) 16 ls st h c n = (o_iload 1 3) r (mx_G r (t_Ev_hasPending zz)) 16 ls st h c n := mx_G_eq (tm_Ev_hasPending zz) r 16 ls st h c n
theorem st_Ev_hasPending_17 (zz : Nat × Nat) (r : mx_T) (ls : mx_L) (st : List Value) (h : mx_H) (c n : Nat) : mx_G r (t_Ev_hasPending zz) 17 ls st h c n = (o_aald) r (mx_G r (t_Ev_hasPending zz)) 17 ls st h c n := mx_G_eq (tm_Ev_hasPending zz) r 17 ls st h c n
theorem st_Ev_hasPending_18 (zz : Nat × Nat) (r : mx_T) (ls : mx_L) (st : List Value) (h : mx_H) (c n : Nat) : mx_G r (t_Ev_hasPending zz) 18 ls st h c n = (o_astore 2 4) r (mx_G r (t_Ev_hasPending zz)) 18 ls st h c n := mx_G_eq (tm_Ev_hasPending zz) r 18 ls st h c n
theorem st_Ev_hasPending_20 (zz : Nat × Nat) (r : mx_T) (ls : mx_L) (st : List Value) (h : mx_H) (c n : Nat) : mx_G r (t_Ev_hasPending zz) 20 ls st h c n = (o_aload 2 4) r (mx_G r (t_Ev_hasPending zz)) 20 ls st h c n := mx_G_eq (tm_Ev_hasPending zz) r 20 ls st h c n
theorem st_Ev_hasPending_22 (zz : Nat × Nat) (r : mx_T) (ls : mx_L) (st : List Value) (h : mx_H) (c n : Nat) : mx_G r (t_Ev_hasPending zz) 22 ls st h c n = (o_get 1 7) r (mx_G r (t_Ev_hasPending zz)) 22 ls st h c n := mx_G_eq (tm_Ev_hasPending zz) r 22 ls st h c n
theorem st_Ev_hasPending_25 (zz : Nat × Nat) (r : mx_T) (ls : mx_L) (st : List Value) (h : mx_H) (c n : Nat) : mx_G r (t_Ev_hasPending zz) 25 ls st h c n = (o_if 30 (fun x => x = 0)) r (mx_G r (t_Ev_hasPending zz)) 25 ls st h c n := mx_G_eq (tm_Ev_hasPending zz) r 25 ls st h c n
theorem st_Ev_hasPending_28 (zz : Nat × Nat) (r : mx_T) (ls : mx_L) (st : List Value) (h : mx_H) (c n : Nat) : mx_G r (t_Ev_hasPending zz) 28 ls st h c n = (o_push 1 (.int 1)) r (mx_G r (t_Ev_hasPending zz)) 28 ls st h c n := mx_G_eq (tm_Ev_hasPending zz) r 28 ls st h c n
theorem st_Ev_hasPending_29 (zz : Nat × Nat) (r : mx_T) (ls : mx_L) (st : List Value) (h : mx_H) (c n : Nat) : mx_G r (t_Ev_hasPending zz) 29 ls st h c n = (o_zret) r (mx_G r (t_Ev_hasPending zz)) 29 ls st h c n := mx_G_eq (tm_Ev_hasPending zz) r 29 ls st h c n
theorem st_Ev_hasPending_30 (zz : Nat × Nat) (r : mx_T) (ls : mx_L) (st : List Value) (h : mx_H) (c n : Nat) : mx_G r (t_Ev_hasPending zz) 30 ls st h c n = (o_iinc 3 1) r (mx_G r (t_Ev_hasPending zz)) 30 ls st h c n := mx_G_eq (tm_Ev_hasPending zz) r 30 ls st h c n
theorem st_Ev_hasPending_33 (zz : Nat × Nat) (r : mx_T) (ls : mx_L) (st : List Value) (h : mx_H) (c n : Nat) : mx_G r (t_Ev_hasPending zz) 33 ls st h c n = (o_goto 10) r (mx_G r (t_Ev_hasPending zz)) 33 ls st h c n := mx_G_eq (tm_Ev_hasPending zz) r 33 ls st h c n
theorem st_Ev_hasPending_36 (zz : Nat × Nat) (r : mx_T) (ls : mx_L) (st : List Value) (h : mx_H) (c n : Nat) : mx_G r (t_Ev_hasPending zz) 36 ls st h c n = (o_push 1 (.int 0)) r (mx_G r (t_Ev_hasPending zz)) 36 ls st h c n := mx_G_eq (tm_Ev_hasPending zz) r 36 ls st h c n
theorem st_Ev_hasPending_37 (zz : Nat × Nat) (r : mx_T) (ls : mx_L) (st : List Value) (h : mx_H) (c n : Nat) : mx_G r (t_Ev_hasPending zz) 37 ls st h c n = (o_zret) r (mx_G r (t_Ev_hasPending zz)) 37 ls st h c n := mx_G_eq (tm_Ev_hasPending zz) r 37 ls st h c n
theorem d_Ev_firstByteOnBus_0 : decode c_Ev_firstByteOnBus 0 = .ok (.sipush 255, 3) := by decide +kernel
theorem d_Ev_firstByteOnBus_3 : decode c_Ev_firstByteOnBus 3 = .ok (.istore_n 1, 1) := by decide +kernel
theorem d_Ev_firstByteOnBus_4 : decode c_Ev_firstByteOnBus 4 = .ok (.aload_n 0, 1) := by decide +kernel
theorem d_Ev_firstByteOnBus_5 : decode c_Ev_firstByteOnBus 5 = .ok (.getfield 15, 3) := by decide +kernel
theorem d_Ev_firstByteOnBus_8 : decode c_Ev_firstByteOnBus 8 = .ok (.astore_n 2, 1) := by decide +kernel
theorem d_Ev_firstByteOnBus_9 : decode c_Ev_firstByteOnBus 9 = .ok (.aload_n 2, 1) := by decide +kernel
theorem d_Ev_firstByteOnBus_10 : decode c_Ev_firstByteOnBus 10 = .ok (.arraylength, 1) := by decide +kernel
theorem d_Ev_firstByteOnBus_11 : decode c_Ev_firstByteOnBus 11 = .ok (.istore_n 3, 1) := by decide +kernel
theorem d_Ev_firstByteOnBus_12 : decode c_Ev_firstByteOnBus 12 = .ok (.iconst 0, 1) := by decide +kernel
theorem d_Ev_firstByteOnBus_13 : decode c_Ev_firstByteOnBus 13 = .ok (.istore 4, 2) := by decide +kernel
theorem d_Ev_firstByteOnBus_15 : decode c_Ev_firstByteOnBus 15 = .ok (.iload 4, 2) := by decide +kernel
theorem d_Ev_firstByteOnBus_17 : decode c_Ev_firstByteOnBus 17 = .ok (.iload_n 3, 1) := by decide +kernel
theorem d_Ev_firstByteOnBus_18 : decode c_Ev_firstByteOnBus 18 = .ok (.if_icmp .ge 31, 3) := by decide +kernel
theorem d_Ev_firstByteOnBus_21 : decode c_Ev_firstByteOnBus 21 = .ok (.aload_n 2, 1) := by decide +kernel
theorem d_Ev_firstByteOnBus_22 : decode c_Ev_firstByteOnBus 22 = .ok (.iload 4, 2) := by decide +kernel
theorem d_Ev_firstByteOnBus_24 : decode c_Ev_firstByteOnBus 24 = .ok (.aaload, 1) := by decide +kernel
theorem d_Ev_firstByteOnBus_25 : decode c_Ev_firstByteOnBus 25 = .ok (.astore 5, 2) := by decide +kernel
theorem d_Ev_firstByteOnBus_27 : decode c_Ev_firstByteOnBus 27 = .ok (.aload 5, 2) := by decide +kernel
theorem d_Ev_firstByteOnBus_29 : decode c_Ev_firstByteOnBus 29 = .ok (.getfield 22, 3) := by decide +kernel
theorem d_Ev_firstByteOnBus_32 : decode c_Ev_firstByteOnBus 32 = .ok (.ifCond .eq 11, 3) := by decide +kernel
theorem d_Ev_firstByteOnBus_35 : decode c_Ev_firstByteOnBus 35 = .ok (.iload_n 1, 1) := by decide +kernel
theorem d_Ev_firstByteOnBus_36 : decode c_Ev_firstByteOnBus 36 = .ok (.aload 5, 2) := by decide +kernel
theorem d_Ev_firstByteOnBus_38 : decode c_Ev_firstByteOnBus 38 = .ok (.getfield 28, 3) := by decide +kernel
theorem d_Ev_firstByteOnBus_41 : decode c_Ev_firstByteOnBus 41 = .ok (.iand, 1) := by decide +kernel
theorem d_Ev_firstByteOnBus_42 : decode c_Ev_firstByteOnBus 42 = .ok (.istore_n 1, 1) := by decide +kernel
theorem d_Ev_firstByteOnBus_43 : decode c_Ev_firstByteOnBus 43 = .ok (.iinc 4 1, 3) := by decide +kernel
theorem d_Ev_firstByteOnBus_46 : decode c_Ev_firstByteOnBus 46 = .ok (.goto (-31), 3) := by decide +kernel
theorem d_Ev_firstByteOnBus_49 : decode c_Ev_firstByteOnBus 49 = .ok (.iload_n 1, 1) := by decide +kernel
theorem d_Ev_firstByteOnBus_50 : decode c_Ev_firstByteOnBus 50 = .ok (.ireturn, 1) := by decide +kernel
def t_Ev_firstByteOnBus (zz : Nat × Nat) : List (Nat × mx_O) := [(0, o_push 3 (.int 255)),
  (3, o_istore 1 1),
  (4, o_aload 1 0),
  (5, o_get 4 1),
  (8, o_astore 1 2),
  (9, o_aload 1 2),
  (10, o_alen),
  (11, o_istore 1 3),
  (12, o_push 1 (.int 0)),
  (13, o_istore 2 4),
  (15, o_iload 2 4),
  (17, o_iload 1 3),
  (18, o_icmp 49 (fun x y => y ≤ x)),
  (21, o_aload 1 2),
  (22, o_iload 2 4),
  (24, o_aald),
  (25, o_astore 2 5),
  (27, o_aload 2 5),
  (29, o_get 1 7),
  (32, o_if 43 (fun x => x = 0)),
  (35, o_iload 1 1),
  (36, o_aload 2 5),
  (38, o_get 1 1),
  (41, o_ii (fun x y => x &&& y)),
  (42, o_istore 1 1),
  (43, o_iinc 4 1),
  (46, o_goto 15),
  (49, o_iload 1 1),
  (50, o_iret)]
set_option maxRecDepth 100000 in
theorem tm_Ev_firstByteOnBus (zz : Nat × Nat) : mx_All (fun _ o => mx_Mono o) (t_Ev_firstByteOnBus zz) := by
  refine mx_all_cons (mo_st) ?_
  refine mx_all_cons (mo_st) ?_
  refine mx_all_cons (mo_st) ?_
  refine mx_all_cons (mo_st) ?_
  refine mx_all_cons (mo_st) ?_
  refine mx_all_cons (mo_st) ?_
  refine mx_all_cons (mo_st) ?_
  refine mx_all_cons (mo_st) ?_
  refine mx_all_cons (mo_st) ?_
  refine mx_all_cons (mo_st) ?_
  refine mx_all_cons (mo_st) ?_
  refine mx_all_cons (mo_st) ?_
  refine mx_all_cons (mo_br) ?_
  refine mx_all_cons (mo_st) ?_
  refine mx_all_cons (mo_st) ?_
  refine mx_all_cons (mo_sc) ?_
  refine mx_all_cons (mo_st) ?_
  refine mx_all_cons (mo_st) ?_
  refine mx_all_cons (mo_st) ?_
  refine mx_all_cons (mo_br) ?_
  refine mx_all_cons (mo_st) ?_
  refine mx_all_cons (mo_st) ?_
  refine mx_all_cons (mo_st) ?_
  refine mx_all_cons (mo_st) ?_
  refine mx_all_cons (mo_st) ?_
  refine mx_all_cons (mo_st) ?_
  refine mx_all_cons (mo_st) ?_
  refine mx_all_cons (mo_st) ?_
  refine mx_all_cons (mo_ret) ?_
  exact mx_all_nil
def S_Ev_firstByteOnBus (zz : Nat × Nat) : mx_Sp := mx_S 6 0 0 (t_Ev_firstByteOnBus zz)
theorem sm_Ev_firstByteOnBus (zz : Nat × Nat) : mx_SMono (S_Ev_firstByteOnBus zz) := mx_S_mono (tm_Ev_firstByteOnBus zz)
abbrev rm_Ev_firstByteOnBus : Room := { frames := 0, cells := 0, slots := 0, locals := 0 }
set_option maxHeartbeats 4000000 in
set_option maxRecDepth 100000 in
theorem m_Ev_firstByteOnBus (l : Launch) (zz : Nat × Nat) : mx_Met l y_Ev_firstByteOnBus (wsOf y_Ev_firstByteOnBus c_Ev_firstByteOnBus 6 (some .int)) rm_Ev_firstByteOnBus wcl (mx_Z zz) 0 0 (S_Ev_firstByteOnBus zz) := by
  refine mx_met (cc := c_Ev_firstByteOnBus) (ret := (some .int)) (by decide) rfl ?_
  intro p e s m args below meth c D A Post X hz hr hlk hnm
  have hm : ∀ w ∈ mw, w.before args s = true := fun w h => X.1.2.2.2.2 w (List.mem_cons_of_mem _ h)
  refine mx_all_cons (ok_push (fun kk => lv_sipush X.1.1 X.1.2.1 d_Ev_firstByteOnBus_0 (by decide) kk)) ?_
  refine mx_all_cons (ok_istore (fun hl kk => lv_istore_n X.1.1 X.1.2.1 d_Ev_firstByteOnBus_3 rfl hl (by decide) rfl kk)) ?_
  refine mx_all_cons (ok_aload (fun hl kk => lv_aload_n X.1.1 X.1.2.1 d_Ev_firstByteOnBus_4 rfl hl kk) (fun hl kk => lv_aload_nN X.1.1 X.1.2.1 d_Ev_firstByteOnBus_4 rfl hl kk)) ?_
  refine mx_all_cons (ok_get (C := "HeaderSchedule$Event") (T := T_Ev) (N := 3) X (mw_up in_Ev) rfl 1 (by decide) (hm _ w436) (fun _ h9 => h9) d_Ev_firstByteOnBus_5) ?_
  refine mx_all_cons (ok_astore (fun hl kk => lv_astore_n X.1.1 X.1.2.1 d_Ev_firstByteOnBus_8 rfl hl (by decide) rfl kk) (fun hl kk => lv_astore_nN X.1.1 X.1.2.1 d_Ev_firstByteOnBus_8 rfl hl (by decide) rfl kk)) ?_
  refine mx_all_cons (ok_aload (fun hl kk => lv_aload_n X.1.1 X.1.2.1 d_Ev_firstByteOnBus_9 rfl hl kk) (fun hl kk => lv_aload_nN X.1.1 X.1.2.1 d_Ev_firstByteOnBus_9 rfl hl kk)) ?_
  refine mx_all_cons (ok_alen X d_Ev_firstByteOnBus_10) ?_
  refine mx_all_cons (ok_istore (fun hl kk => lv_istore_n X.1.1 X.1.2.1 d_Ev_firstByteOnBus_11 rfl hl (by decide) rfl kk)) ?_
  refine mx_all_cons (ok_push (fun kk => lv_iconst X.1.1 X.1.2.1 d_Ev_firstByteOnBus_12 (by decide) kk)) ?_
  refine mx_all_cons (ok_istore (fun hl kk => lv_istore X.1.1 X.1.2.1 d_Ev_firstByteOnBus_13 hl (by decide) rfl kk)) ?_
  refine mx_all_cons (ok_iload (fun hl kk => lv_iload X.1.1 X.1.2.1 d_Ev_firstByteOnBus_15 hl kk)) ?_
  refine mx_all_cons (ok_iload (fun hl kk => lv_iload_n X.1.1 X.1.2.1 d_Ev_firstByteOnBus_17 rfl hl kk)) ?_
  refine mx_all_cons (ok_icmp (fun kt kf => lv_icmp_ge X.1.1 X.1.2.1 d_Ev_firstByteOnBus_18 (by decide) kt kf)) ?_
  refine mx_all_cons (ok_aload (fun hl kk => lv_aload_n X.1.1 X.1.2.1 d_Ev_firstByteOnBus_21 rfl hl kk) (fun hl kk => lv_aload_nN X.1.1 X.1.2.1 d_Ev_firstByteOnBus_21 rfl hl kk)) ?_
  refine mx_all_cons (ok_iload (fun hl kk => lv_iload X.1.1 X.1.2.1 d_Ev_firstByteOnBus_22 hl kk)) ?_
  refine mx_all_cons (ok_aald X d_Ev_firstByteOnBus_24) ?_
  refine mx_all_cons (ok_astore (fun hl kk => lv_astore X.1.1 X.1.2.1 d_Ev_firstByteOnBus_25 hl (by decide) rfl kk) (fun hl kk => lv_astoreN X.1.1 X.1.2.1 d_Ev_firstByteOnBus_25 hl (by decide) rfl kk)) ?_
  refine mx_all_cons (ok_aload (fun hl kk => lv_aload X.1.1 X.1.2.1 d_Ev_firstByteOnBus_27 hl kk) (fun hl kk => lv_aloadN X.1.1 X.1.2.1 d_Ev_firstByteOnBus_27 hl kk)) ?_
  refine mx_all_cons (ok_get (C := "HeaderSchedule$Frame") (T := T_Fr) (N := 8) X (mw_up in_Fr) rfl 7 (by decide) (hm _ w238) (fun _ h9 => h9) d_Ev_firstByteOnBus_29) ?_
  refine mx_all_cons (ok_if (fun kt kf => lv_if_eq X.1.1 X.1.2.1 d_Ev_firstByteOnBus_32 (by decide) kt kf)) ?_
  refine mx_all_cons (ok_iload (fun hl kk => lv_iload_n X.1.1 X.1.2.1 d_Ev_firstByteOnBus_35 rfl hl kk)) ?_
  refine mx_all_cons (ok_aload (fun hl kk => lv_aload X.1.1 X.1.2.1 d_Ev_firstByteOnBus_36 hl kk) (fun hl kk => lv_aloadN X.1.1 X.1.2.1 d_Ev_firstByteOnBus_36 hl kk)) ?_
  refine mx_all_cons (ok_get (C := "HeaderSchedule$Frame") (T := T_Fr) (N := 8) X (mw_up in_Fr) rfl 1 (by decide) (hm _ w223) (fun _ h9 => h9) d_Ev_firstByteOnBus_38) ?_
  refine mx_all_cons (ok_ii (fun kk => lv_iand X.1.1 X.1.2.1 d_Ev_firstByteOnBus_41 kk)) ?_
  refine mx_all_cons (ok_istore (fun hl kk => lv_istore_n X.1.1 X.1.2.1 d_Ev_firstByteOnBus_42 rfl hl (by decide) rfl kk)) ?_
  refine mx_all_cons (ok_iinc X (by decide) (by decide) d_Ev_firstByteOnBus_43) ?_
  refine mx_all_cons (ok_goto X d_Ev_firstByteOnBus_46 (by decide)) ?_
  refine mx_all_cons (ok_iload (fun hl kk => lv_iload_n X.1.1 X.1.2.1 d_Ev_firstByteOnBus_49 rfl hl kk)) ?_
  refine mx_all_cons (ok_iret X hr hlk d_Ev_firstByteOnBus_50) ?_
  exact mx_all_nil
theorem st_Ev_firstByteOnBus_0 (zz : Nat × Nat) (r : mx_T) (ls : mx_L) (st : List Value) (h : mx_H) (c n : Nat) : mx_G r (t_Ev_firstByteOnBus zz) 0 ls st h c n = (o_push 3 (.int 255)) r (mx_G r (t_Ev_firstByteOnBus zz)) 0 ls st h c n := mx_G_eq (tm_Ev_firstByteOnBus zz) r 0 ls st h c n
theorem st_Ev_firstByteOnBus_3 (zz : Nat × Nat) (r : mx_T) (ls : mx_L) (st : List Value) (h : mx_H) (c n : Nat) : mx_G r (t_Ev_firstByteOnBus zz) 3 ls st h c n = (o_istore 1 1) r (mx_G r (t_Ev_firstByteOnBus zz)) 3 ls st h c n := mx_G_eq (tm_Ev_firstByteOnBus zz) r 3 ls st h c n
theorem st_Ev_firstByteOnBus_4 (zz : Nat × Nat) (r : mx_T) (ls : mx_L) (st : List Value) (h : mx_H) (c n : Nat) : mx_G r (t_Ev_firstByteOnBus zz) 4 ls st h c n = (o_aload 1 0) r (mx_G r (t_Ev_firstByteOnBus zz)) 4 ls st h c n := mx_G_eq (tm_Ev_firstByteOnBus zz) r 4 ls st h c n
theorem st_Ev_firstByteOnBus_5 (zz : Nat × Nat) (r : mx_T) (ls : mx_L) (st : List Value) (h : mx_H) (c n : Nat) : mx_G r (t_Ev_firstByteOnBus zz) 5 ls st h c n = (o_get 4 1) r (mx_G r (t_Ev_firstByteOnBus zz)) 5 ls st h c n := mx_G_eq (tm_Ev_firstByteOnBus zz) r 5 ls st h c n
theorem st_Ev_firstByteOnBus_8 (zz : Nat × Nat) (r : mx_T) (ls : mx_L) (st : List Value) (h : mx_H) (c n : Nat) : mx_G r (t_Ev_firstByteOnBus zz) 8 ls st h c n = (o_astore 1 2) r (mx_G r (t_Ev_firstByteOnBus zz)) 8 ls st h c n := mx_G_eq (tm_Ev_firstByteOnBus zz) r 8 ls st h c n
theorem st_Ev_firstByteOnBus_9 (zz : Nat × Nat) (r : mx_T) (ls : mx_L) (st : List Value) (h : mx_H) (c n : Nat) : mx_G r (t_Ev_firstByteOnBus zz) 9 ls st h c n = (o_aload 1 2) r (mx_G r (t_Ev_firstByteOnBus zz)) 9 ls st h c n := mx_G_eq (tm_Ev_firstByteOnBus zz) r 9 ls st h c n
theorem st_Ev_firstByteOnBus_10 (zz : Nat × Nat) (r : mx_T) (ls : mx_L) (st : List Value) (h : mx_H) (c n : Nat) : mx_G r (t_Ev_firstByteOnBus zz) 10 ls st h c n = (o_alen) r (mx_G r (t_Ev_firstByteOnBus zz)) 10 ls st h c n := mx_G_eq (tm_Ev_firstByteOnBus zz) r 10 ls st h c n
theorem st_Ev_firstByteOnBus_11 (zz : Nat × Nat) (r : mx_T) (ls : mx_L) (st : List Value) (h : mx_H) (c n : Nat) : mx_G r (t_Ev_firstByteOnBus zz) 11 ls st h c n = (o_istore 1 3) r (mx_G r (t_Ev_firstByteOnBus zz)) 11 ls st h c n := mx_G_eq (tm_Ev_firstByteOnBus zz) r 11 ls st h c n
theorem st_Ev_firstByteOnBus_12 (zz : Nat × Nat) (r : mx_T) (ls : mx_L) (st : List Value) (h : mx_H) (c n : Nat) : mx_G r (t_Ev_firstByteOnBus zz) 12 ls st h c n = (o_push 1 (.int 0)) r (mx_G r (t_Ev_firstByteOnBus zz)) 12 ls st h c n := mx_G_eq (tm_Ev_firstByteOnBus zz) r 12 ls st h c n
theorem st_Ev_firstByteOnBus_13 (zz : Nat × Nat) (r : mx_T) (ls : mx_L) (st : List Value) (h : mx_H) (c n : Nat) : mx_G r (t_Ev_firstByteOnBus zz) 13 ls st h c n = (o_istore 2 4) r (mx_G r (t_Ev_firstByteOnBus zz)) 13 ls st h c n := mx_G_eq (tm_Ev_firstByteOnBus zz) r 13 ls st h c n
theorem st_Ev_firstByteOnBus_15 (zz : Nat × Nat) (r : mx_T) (ls : mx_L) (st : List Value) (h : mx_H) (c n : Nat) : mx_G r (t_Ev_firstByteOnBus zz) 15 ls st h c n = (o_iload 2 4) r (mx_G r (t_Ev_firstByteOnBus zz)) 15 ls st h c n := mx_G_eq (tm_Ev_firstByteOnBus zz) r 15 ls st h c n
theorem st_Ev_firstByteOnBus_17 (zz : Nat × Nat) (r : mx_T) (ls : mx_L) (st : List Value) (h : mx_H) (c n : Nat) : mx_G r (t_Ev_firstByteOnBus zz) 17 ls st h c n = (o_iload 1 3) r (mx_G r (t_Ev_firstByteOnBus zz)) 17 ls st h c n := mx_G_eq (tm_Ev_firstByteOnBus zz) r 17 ls st h c n
theorem st_Ev_firstByteOnBus_18 (zz : Nat × Nat) (r : mx_T) (ls : mx_L) (st : List Value) (h : mx_H) (c n : Nat) : mx_G r (t_Ev_firstByteOnBus zz) 18 ls st h c n = (o_icmp 49 (fun x y => y ≤ x)) r (mx_G r (t_Ev_firstByteOnBus zz)) 18 ls st h c n := mx_G_eq (tm_Ev_firstByteOnBus zz) r 18 ls st h c n
theorem st_Ev_firstByteOnBus_21 (zz : Nat × Nat) (r : mx_T) (ls : mx_L) (st : List Value) (h : mx_H) (c n : Nat) : mx_G r (t_Ev_firstByteOnBus zz) 21 ls st h c n = (o_aload 1 2) r (mx_G r (t_Ev_firstByteOnBus zz)) 21 ls st h c n := mx_G_eq (tm_Ev_firstByteOnBus zz) r 21 ls st h c n
theorem st_Ev_firstByteOnBus_22 (zz : Nat × Nat) (r : mx_T) (ls : mx_L) (st : List Value) (h : mx_H) (c n : Nat) : mx_G r (t_Ev_firstByteOnBus zz) 22 ls st h c n = (o_iload 2 4) r (mx_G r (t_Ev_firstByteOnBus zz)) 22 ls st h c n := mx_G_eq (tm_Ev_firstByteOnBus zz) r 22 ls st h c n
theorem st_Ev_firstByteOnBus_24 (zz : Nat × Nat) (r : mx_T) (ls : mx_L) (st : List Value) (h : mx_H) (c n : Nat) : mx_G r (t_Ev_firstByteOnBus zz) 24 ls st h c n = (o_aald) r (mx_G r (t_Ev_firstByteOnBus zz)) 24 ls st h c n := mx_G_eq (tm_Ev_firstByteOnBus zz) r 24 ls st h c n
theorem st_Ev_firstByteOnBus_25 (zz : Nat × Nat) (r : mx_T) (ls : mx_L) (st : List Value) (h : mx_H) (c n : Nat) : mx_G r (t_Ev_firstByteOnBus zz) 25 ls st h c n = (o_astore 2 5) r (mx_G r (t_Ev_firstByteOnBus zz)) 25 ls st h c n := mx_G_eq (tm_Ev_firstByteOnBus zz) r 25 ls st h c n
theorem st_Ev_firstByteOnBus_27 (zz : Nat × Nat) (r : mx_T) (ls : mx_L) (st : List Value) (h : mx_H) (c n : Nat) : mx_G r (t_Ev_firstByteOnBus zz) 27 ls st h c n = (o_aload 2 5) r (mx_G r (t_Ev_firstByteOnBus zz)) 27 ls st h c n := mx_G_eq (tm_Ev_firstByteOnBus zz) r 27 ls st h c n
theorem st_Ev_firstByteOnBus_29 (zz : Nat × Nat) (r : mx_T) (ls : mx_L) (st : List Value) (h : mx_H) (c n : Nat) : mx_G r (t_Ev_firstByteOnBus zz) 29 ls st h c n = (o_get 1 7) r (mx_G r (t_Ev_firstByteOnBus zz)) 29 ls st h c n := mx_G_eq (tm_Ev_firstByteOnBus zz) r 29 ls st h c n
theorem st_Ev_firstByteOnBus_32 (zz : Nat × Nat) (r : mx_T) (ls : mx_L) (st : List Value) (h : mx_H) (c n : Nat) : mx_G r (t_Ev_firstByteOnBus zz) 32 ls st h c n = (o_if 43 (fun x => x = 0)) r (mx_G r (t_Ev_firstByteOnBus zz)) 32 ls st h c n := mx_G_eq (tm_Ev_firstByteOnBus zz) r 32 ls st h c n
theorem st_Ev_firstByteOnBus_35 (zz : Nat × Nat) (r : mx_T) (ls : mx_L) (st : List Value) (h : mx_H) (c n : Nat) : mx_G r (t_Ev_firstByteOnBus zz) 35 ls st h c n = (o_iload 1 1) r (mx_G r (t_Ev_firstByteOnBus zz)) 35 ls st h c n := mx_G_eq (tm_Ev_firstByteOnBus zz) r 35 ls st h c n
theorem st_Ev_firstByteOnBus_36 (zz : Nat × Nat) (r : mx_T) (ls : mx_L) (st : List Value) (h : mx_H) (c n : Nat) : mx_G r (t_Ev_firstByteOnBus zz) 36 ls st h c n = (o_aload 2 5) r (mx_G r (t_Ev_firstByteOnBus zz)) 36 ls st h c n := mx_G_eq (tm_Ev_firstByteOnBus zz) r 36 ls st h c n
theorem st_Ev_firstByteOnBus_38 (zz : Nat × Nat) (r : mx_T) (ls : mx_L) (st : List Value) (h : mx_H) (c n : Nat) : mx_G r (t_Ev_firstByteOnBus zz) 38 ls st h c n = (o_get 1 1) r (mx_G r (t_Ev_firstByteOnBus zz)) 38 ls st h c n := mx_G_eq (tm_Ev_firstByteOnBus zz) r 38 ls st h c n
theorem st_Ev_firstByteOnBus_41 (zz : Nat × Nat) (r : mx_T) (ls : mx_L) (st : List Value) (h : mx_H) (c n : Nat) : mx_G r (t_Ev_firstByteOnBus zz) 41 ls st h c n = (o_ii (fun x y => x &&& y)) r (mx_G r (t_Ev_firstByteOnBus zz)) 41 ls st h c n := mx_G_eq (tm_Ev_firstByteOnBus zz) r 41 ls st h c n
theorem st_Ev_firstByteOnBus_42 (zz : Nat × Nat) (r : mx_T) (ls : mx_L) (st : List Value) (h : mx_H) (c n : Nat) : mx_G r (t_Ev_firstByteOnBus zz) 42 ls st h c n = (o_istore 1 1) r (mx_G r (t_Ev_firstByteOnBus zz)) 42 ls st h c n := mx_G_eq (tm_Ev_firstByteOnBus zz) r 42 ls st h c n
theorem st_Ev_firstByteOnBus_43 (zz : Nat × Nat) (r : mx_T) (ls : mx_L) (st : List Value) (h : mx_H) (c n : Nat) : mx_G r (t_Ev_firstByteOnBus zz) 43 ls st h c n = (o_iinc 4 1) r (mx_G r (t_Ev_firstByteOnBus zz)) 43 ls st h c n := mx_G_eq (tm_Ev_firstByteOnBus zz) r 43 ls st h c n
theorem st_Ev_firstByteOnBus_46 (zz : Nat × Nat) (r : mx_T) (ls : mx_L) (st : List Value) (h : mx_H) (c n : Nat) : mx_G r (t_Ev_firstByteOnBus zz) 46 ls st h c n = (o_goto 15) r (mx_G r (t_Ev_firstByteOnBus zz)) 46 ls st h c n := mx_G_eq (tm_Ev_firstByteOnBus zz) r 46 ls st h c n
theorem st_Ev_firstByteOnBus_49 (zz : Nat × Nat) (r : mx_T) (ls : mx_L) (st : List Value) (h : mx_H) (c n : Nat) : mx_G r (t_Ev_firstByteOnBus zz) 49 ls st h c n = (o_iload 1 1) r (mx_G r (t_Ev_firstByteOnBus zz)) 49 ls st h c n := mx_G_eq (tm_Ev_firstByteOnBus zz) r 49 ls st h c n
theorem st_Ev_firstByteOnBus_50 (zz : Nat × Nat) (r : mx_T) (ls : mx_L) (st : List Value) (h : mx_H) (c n : Nat) : mx_G r (t_Ev_firstByteOnBus zz) 50 ls st h c n = (o_iret) r (mx_G r (t_Ev_firstByteOnBus zz)) 50 ls st h c n := mx_G_eq (tm_Ev_firstByteOnBus zz) r 50 ls st h c n
theorem d_Ev_memberWith_0 : decode c_Ev_memberWith 0 = .ok (.aload_n 0, 1) := by decide +kernel
theorem d_Ev_memberWith_1 : decode c_Ev_memberWith 1 = .ok (.getfield 15, 3) := by decide +kernel
theorem d_Ev_memberWith_4 : decode c_Ev_memberWith 4 = .ok (.astore_n 2, 1) := by decide +kernel
theorem d_Ev_memberWith_5 : decode c_Ev_memberWith 5 = .ok (.aload_n 2, 1) := by decide +kernel
theorem d_Ev_memberWith_6 : decode c_Ev_memberWith 6 = .ok (.arraylength, 1) := by decide +kernel
theorem d_Ev_memberWith_7 : decode c_Ev_memberWith 7 = .ok (.istore_n 3, 1) := by decide +kernel
theorem d_Ev_memberWith_8 : decode c_Ev_memberWith 8 = .ok (.iconst 0, 1) := by decide +kernel
theorem d_Ev_memberWith_9 : decode c_Ev_memberWith 9 = .ok (.istore 4, 2) := by decide +kernel
theorem d_Ev_memberWith_11 : decode c_Ev_memberWith 11 = .ok (.iload 4, 2) := by decide +kernel
theorem d_Ev_memberWith_13 : decode c_Ev_memberWith 13 = .ok (.iload_n 3, 1) := by decide +kernel
theorem d_Ev_memberWith_14 : decode c_Ev_memberWith 14 = .ok (.if_icmp .ge 27, 3) := by decide +kernel
theorem d_Ev_memberWith_17 : decode c_Ev_memberWith 17 = .ok (.aload_n 2, 1) := by decide +kernel
theorem d_Ev_memberWith_18 : decode c_Ev_memberWith 18 = .ok (.iload 4, 2) := by decide +kernel
theorem d_Ev_memberWith_20 : decode c_Ev_memberWith 20 = .ok (.aaload, 1) := by decide +kernel
theorem d_Ev_memberWith_21 : decode c_Ev_memberWith 21 = .ok (.astore 5, 2) := by decide +kernel
theorem d_Ev_memberWith_23 : decode c_Ev_memberWith 23 = .ok (.aload 5, 2) := by decide +kernel
theorem d_Ev_memberWith_25 : decode c_Ev_memberWith 25 = .ok (.getfield 28, 3) := by decide +kernel
theorem d_Ev_memberWith_28 : decode c_Ev_memberWith 28 = .ok (.iload_n 1, 1) := by decide +kernel
theorem d_Ev_memberWith_29 : decode c_Ev_memberWith 29 = .ok (.if_icmp .ne 6, 3) := by decide +kernel
theorem d_Ev_memberWith_32 : decode c_Ev_memberWith 32 = .ok (.aload 5, 2) := by decide +kernel
theorem d_Ev_memberWith_34 : decode c_Ev_memberWith 34 = .ok (.areturn, 1) := by decide +kernel
theorem d_Ev_memberWith_35 : decode c_Ev_memberWith 35 = .ok (.iinc 4 1, 3) := by decide +kernel
theorem d_Ev_memberWith_38 : decode c_Ev_memberWith 38 = .ok (.goto (-27), 3) := by decide +kernel
theorem d_Ev_memberWith_41 : decode c_Ev_memberWith 41 = .ok (.aconst_null, 1) := by decide +kernel
theorem d_Ev_memberWith_42 : decode c_Ev_memberWith 42 = .ok (.areturn, 1) := by decide +kernel
def t_Ev_memberWith (zz : Nat × Nat) : List (Nat × mx_O) := [(0, o_aload 1 0),
  (1, o_get 4 1),
  (4, o_astore 1 2),
  (5, o_aload 1 2),
  (6, o_alen),
  (7, o_istore 1 3),
  (8, o_push 1 (.int 0)),
  (9, o_istore 2 4),
  (11, o_iload 2 4),
  (13, o_iload 1 3),
  (14, o_icmp 41 (fun x y => y ≤ x)),
  (17, o_aload 1 2),
  (18, o_iload 2 4),
  (20, o_aald),
  (21, o_astore 2 5),
  (23, o_aload 2 5),
  (25, o_get 1 1),
  (28, o_iload 1 1),
  (29, o_icmp 35 (fun x y => ¬ x = y)),
  (32, o_aload 2 5),
  (34, o_aret),
  (35, o_iinc 4 1),
  (38, o_goto 11),
  (41, o_push 1 .null),
  (42, o_aret)]
set_option maxRecDepth 100000 in
theorem tm_Ev_memberWith (zz : Nat × Nat) : mx_All (fun _ o => mx_Mono o) (t_Ev_memberWith zz) := by
  refine mx_all_cons (mo_st) ?_
  refine mx_all_cons (mo_st) ?_
  refine mx_all_cons (mo_st) ?_
  refine mx_all_cons (mo_st) ?_
  refine mx_all_cons (mo_st) ?_
  refine mx_all_cons (mo_st) ?_
  refine mx_all_cons (mo_st) ?_
  refine mx_all_cons (mo_st) ?_
  refine mx_all_cons (mo_st) ?_
  refine mx_all_cons (mo_st) ?_
  refine mx_all_cons (mo_br) ?_
  refine mx_all_cons (mo_st) ?_
  refine mx_all_cons (mo_st) ?_
  refine mx_all_cons (mo_sc) ?_
  refine mx_all_cons (mo_st) ?_
  refine mx_all_cons (mo_st) ?_
  refine mx_all_cons (mo_st) ?_
  refine mx_all_cons (mo_st) ?_
  refine mx_all_cons (mo_br) ?_
  refine mx_all_cons (mo_st) ?_
  refine mx_all_cons (mo_ret) ?_
  refine mx_all_cons (mo_st) ?_
  refine mx_all_cons (mo_st) ?_
  refine mx_all_cons (mo_st) ?_
  refine mx_all_cons (mo_ret) ?_
  exact mx_all_nil
def S_Ev_memberWith (zz : Nat × Nat) : mx_Sp := mx_S 6 0 0 (t_Ev_memberWith zz)
theorem sm_Ev_memberWith (zz : Nat × Nat) : mx_SMono (S_Ev_memberWith zz) := mx_S_mono (tm_Ev_memberWith zz)
abbrev rm_Ev_memberWith : Room := { frames := 0, cells := 0, slots := 0, locals := 0 }
set_option maxHeartbeats 4000000 in
set_option maxRecDepth 100000 in
theorem m_Ev_memberWith (l : Launch) (zz : Nat × Nat) : mx_Met l y_Ev_memberWith (wsOf y_Ev_memberWith c_Ev_memberWith 6 (some (.object "HeaderSchedule$Frame"))) rm_Ev_memberWith wcl (mx_Z zz) 0 0 (S_Ev_memberWith zz) := by
  refine mx_met (cc := c_Ev_memberWith) (ret := (some (.object "HeaderSchedule$Frame"))) (by decide) rfl ?_
  intro p e s m args below meth c D A Post X hz hr hlk hnm
  have hm : ∀ w ∈ mw, w.before args s = true := fun w h => X.1.2.2.2.2 w (List.mem_cons_of_mem _ h)
  refine mx_all_cons (ok_aload (fun hl kk => lv_aload_n X.1.1 X.1.2.1 d_Ev_memberWith_0 rfl hl kk) (fun hl kk => lv_aload_nN X.1.1 X.1.2.1 d_Ev_memberWith_0 rfl hl kk)) ?_
  refine mx_all_cons (ok_get (C := "HeaderSchedule$Event") (T := T_Ev) (N := 3) X (mw_up in_Ev) rfl 1 (by decide) (hm _ w436) (fun _ h9 => h9) d_Ev_memberWith_1) ?_
  refine mx_all_cons (ok_astore (fun hl kk => lv_astore_n X.1.1 X.1.2.1 d_Ev_memberWith_4 rfl hl (by decide) rfl kk) (fun hl kk => lv_astore_nN X.1.1 X.1.2.1 d_Ev_memberWith_4 rfl hl (by decide) rfl kk)) ?_
  refine mx_all_cons (ok_aload (fun hl kk => lv_aload_n X.1.1 X.1.2.1 d_Ev_memberWith_5 rfl hl kk) (fun hl kk => lv_aload_nN X.1.1 X.1.2.1 d_Ev_memberWith_5 rfl hl kk)) ?_
  refine mx_all_cons (ok_alen X d_Ev_memberWith_6) ?_
  refine mx_all_cons (ok_istore (fun hl kk => lv_istore_n X.1.1 X.1.2.1 d_Ev_memberWith_7 rfl hl (by decide) rfl kk)) ?_
  refine mx_all_cons (ok_push (fun kk => lv_iconst X.1.1 X.1.2.1 d_Ev_memberWith_8 (by decide) kk)) ?_
  refine mx_all_cons (ok_istore (fun hl kk => lv_istore X.1.1 X.1.2.1 d_Ev_memberWith_9 hl (by decide) rfl kk)) ?_
  refine mx_all_cons (ok_iload (fun hl kk => lv_iload X.1.1 X.1.2.1 d_Ev_memberWith_11 hl kk)) ?_
  refine mx_all_cons (ok_iload (fun hl kk => lv_iload_n X.1.1 X.1.2.1 d_Ev_memberWith_13 rfl hl kk)) ?_
  refine mx_all_cons (ok_icmp (fun kt kf => lv_icmp_ge X.1.1 X.1.2.1 d_Ev_memberWith_14 (by decide) kt kf)) ?_
  refine mx_all_cons (ok_aload (fun hl kk => lv_aload_n X.1.1 X.1.2.1 d_Ev_memberWith_17 rfl hl kk) (fun hl kk => lv_aload_nN X.1.1 X.1.2.1 d_Ev_memberWith_17 rfl hl kk)) ?_
  refine mx_all_cons (ok_iload (fun hl kk => lv_iload X.1.1 X.1.2.1 d_Ev_memberWith_18 hl kk)) ?_
  refine mx_all_cons (ok_aald X d_Ev_memberWith_20) ?_
  refine mx_all_cons (ok_astore (fun hl kk => lv_astore X.1.1 X.1.2.1 d_Ev_memberWith_21 hl (by decide) rfl kk) (fun hl kk => lv_astoreN X.1.1 X.1.2.1 d_Ev_memberWith_21 hl (by decide) rfl kk)) ?_
  refine mx_all_cons (ok_aload (fun hl kk => lv_aload X.1.1 X.1.2.1 d_Ev_memberWith_23 hl kk) (fun hl kk => lv_aloadN X.1.1 X.1.2.1 d_Ev_memberWith_23 hl kk)) ?_
  refine mx_all_cons (ok_get (C := "HeaderSchedule$Frame") (T := T_Fr) (N := 8) X (mw_up in_Fr) rfl 1 (by decide) (hm _ w223) (fun _ h9 => h9) d_Ev_memberWith_25) ?_
  refine mx_all_cons (ok_iload (fun hl kk => lv_iload_n X.1.1 X.1.2.1 d_Ev_memberWith_28 rfl hl kk)) ?_
  refine mx_all_cons (ok_icmp (fun kt kf => lv_icmp_ne X.1.1 X.1.2.1 d_Ev_memberWith_29 (by decide) kt (fun z => kf (fun g => g z)))) ?_
  refine mx_all_cons (ok_aload (fun hl kk => lv_aload X.1.1 X.1.2.1 d_Ev_memberWith_32 hl kk) (fun hl kk => lv_aloadN X.1.1 X.1.2.1 d_Ev_memberWith_32 hl kk)) ?_
  refine mx_all_cons (ok_aret X hr (by first | exact Or.inl ⟨_, rfl⟩ | exact Or.inr ⟨_, rfl⟩) hlk d_Ev_memberWith_34) ?_
  refine mx_all_cons (ok_iinc X (by decide) (by decide) d_Ev_memberWith_35) ?_
  refine mx_all_cons (ok_goto X d_Ev_memberWith_38 (by decide)) ?_
  refine mx_all_cons (ok_push (fun kk => lv_null X.1.1 X.1.2.1 d_Ev_memberWith_41 kk)) ?_
  refine mx_all_cons (ok_aret X hr (by first | exact Or.inl ⟨_, rfl⟩ | exact Or.inr ⟨_, rfl⟩) hlk d_Ev_memberWith_42) ?_
  exact mx_all_nil
theorem st_Ev_memberWith_0 (zz : Nat × Nat) (r : mx_T) (ls : mx_L) (st : List Value) (h : mx_H) (c n : Nat) : mx_G r (t_Ev_memberWith zz) 0 ls st h c n = (o_aload 1 0) r (mx_G r (t_Ev_memberWith zz)) 0 ls st h c n := mx_G_eq (tm_Ev_memberWith zz) r 0 ls st h c n
theorem st_Ev_memberWith_1 (zz : Nat × Nat) (r : mx_T) (ls : mx_L) (st : List Value) (h : mx_H) (c n : Nat) : mx_G r (t_Ev_memberWith zz) 1 ls st h c n = (o_get 4 1) r (mx_G r (t_Ev_memberWith zz)) 1 ls st h c n := mx_G_eq (tm_Ev_memberWith zz) r 1 ls st h c n
theorem st_Ev_memberWith_4 (zz : Nat × Nat) (r : mx_T) (ls : mx_L) (st : List Value) (h : mx_H) (c n : Nat) : mx_G r (t_Ev_memberWith zz) 4 ls st h c n = (o_astore 1 2) r (mx_G r (t_Ev_memberWith zz)) 4 ls st h c n := mx_G_eq (tm_Ev_memberWith zz) r 4 ls st h c n
theorem st_Ev_memberWith_5 (zz : Nat × Nat) (r : mx_T) (ls : mx_L) (st : List Value) (h : mx_H) (c n : Nat) : mx_G r (t_Ev_memberWith zz) 5 ls st h c n = (o_aload 1 2) r (mx_G r (t_Ev_memberWith zz)) 5 ls st h c n := mx_G_eq (tm_Ev_memberWith zz) r 5 ls st h c n
theorem st_Ev_memberWith_6 (zz : Nat × Nat) (r : mx_T) (ls : mx_L) (st : List Value) (h : mx_H) (c n : Nat) : mx_G r (t_Ev_memberWith zz) 6 ls st h c n = (o_alen) r (mx_G r (t_Ev_memberWith zz)) 6 ls st h c n := mx_G_eq (tm_Ev_memberWith zz) r 6 ls st h c n
theorem st_Ev_memberWith_7 (zz : Nat × Nat) (r : mx_T) (ls : mx_L) (st : List Value) (h : mx_H) (c n : Nat) : mx_G r (t_Ev_memberWith zz) 7 ls st h c n = (o_istore 1 3) r (mx_G r (t_Ev_memberWith zz)) 7 ls st h c n := mx_G_eq (tm_Ev_memberWith zz) r 7 ls st h c n
theorem st_Ev_memberWith_8 (zz : Nat × Nat) (r : mx_T) (ls : mx_L) (st : List Value) (h : mx_H) (c n : Nat) : mx_G r (t_Ev_memberWith zz) 8 ls st h c n = (o_push 1 (.int 0)) r (mx_G r (t_Ev_memberWith zz)) 8 ls st h c n := mx_G_eq (tm_Ev_memberWith zz) r 8 ls st h c n
theorem st_Ev_memberWith_9 (zz : Nat × Nat) (r : mx_T) (ls : mx_L) (st : List Value) (h : mx_H) (c n : Nat) : mx_G r (t_Ev_memberWith zz) 9 ls st h c n = (o_istore 2 4) r (mx_G r (t_Ev_memberWith zz)) 9 ls st h c n := mx_G_eq (tm_Ev_memberWith zz) r 9 ls st h c n
theorem st_Ev_memberWith_11 (zz : Nat × Nat) (r : mx_T) (ls : mx_L) (st : List Value) (h : mx_H) (c n : Nat) : mx_G r (t_Ev_memberWith zz) 11 ls st h c n = (o_iload 2 4) r (mx_G r (t_Ev_memberWith zz)) 11 ls st h c n := mx_G_eq (tm_Ev_memberWith zz) r 11 ls st h c n
theorem st_Ev_memberWith_13 (zz : Nat × Nat) (r : mx_T) (ls : mx_L) (st : List Value) (h : mx_H) (c n : Nat) : mx_G r (t_Ev_memberWith zz) 13 ls st h c n = (o_iload 1 3) r (mx_G r (t_Ev_memberWith zz)) 13 ls st h c n := mx_G_eq (tm_Ev_memberWith zz) r 13 ls st h c n
theorem st_Ev_memberWith_14 (zz : Nat × Nat) (r : mx_T) (ls : mx_L) (st : List Value) (h : mx_H) (c n : Nat) : mx_G r (t_Ev_memberWith zz) 14 ls st h c n = (o_icmp 41 (fun x y => y ≤ x)) r (mx_G r (t_Ev_memberWith zz)) 14 ls st h c n := mx_G_eq (tm_Ev_memberWith zz) r 14 ls st h c n
theorem st_Ev_memberWith_17 (zz : Nat × Nat) (r : mx_T) (ls : mx_L) (st : List Value) (h : mx_H) (c n : Nat) : mx_G r (t_Ev_memberWith zz) 17 ls st h c n = (o_aload 1 2) r (mx_G r (t_Ev_memberWith zz)) 17 ls st h c n := mx_G_eq (tm_Ev_memberWith zz) r 17 ls st h c n
theorem st_Ev_memberWith_18 (zz : Nat × Nat) (r : mx_T) (ls : mx_L) (st : List Value) (h : mx_H) (c n : Nat) : mx_G r (t_Ev_memberWith zz) 18 ls st h c n = (o_iload 2 4) r (mx_G r (t_Ev_memberWith zz)) 18 ls st h c n := mx_G_eq (tm_Ev_memberWith zz) r 18 ls st h c n
theorem st_Ev_memberWith_20 (zz : Nat × Nat) (r : mx_T) (ls : mx_L) (st : List Value) (h : mx_H) (c n : Nat) : mx_G r (t_Ev_memberWith zz) 20 ls st h c n = (o_aald) r (mx_G r (t_Ev_memberWith zz)) 20 ls st h c n := mx_G_eq (tm_Ev_memberWith zz) r 20 ls st h c n
theorem st_Ev_memberWith_21 (zz : Nat × Nat) (r : mx_T) (ls : mx_L) (st : List Value) (h : mx_H) (c n : Nat) : mx_G r (t_Ev_memberWith zz) 21 ls st h c n = (o_astore 2 5) r (mx_G r (t_Ev_memberWith zz)) 21 ls st h c n := mx_G_eq (tm_Ev_memberWith zz) r 21 ls st h c n
theorem st_Ev_memberWith_23 (zz : Nat × Nat) (r : mx_T) (ls : mx_L) (st : List Value) (h : mx_H) (c n : Nat) : mx_G r (t_Ev_memberWith zz) 23 ls st h c n = (o_aload 2 5) r (mx_G r (t_Ev_memberWith zz)) 23 ls st h c n := mx_G_eq (tm_Ev_memberWith zz) r 23 ls st h c n
theorem st_Ev_memberWith_25 (zz : Nat × Nat) (r : mx_T) (ls : mx_L) (st : List Value) (h : mx_H) (c n : Nat) : mx_G r (t_Ev_memberWith zz) 25 ls st h c n = (o_get 1 1) r (mx_G r (t_Ev_memberWith zz)) 25 ls st h c n := mx_G_eq (tm_Ev_memberWith zz) r 25 ls st h c n
theorem st_Ev_memberWith_28 (zz : Nat × Nat) (r : mx_T) (ls : mx_L) (st : List Value) (h : mx_H) (c n : Nat) : mx_G r (t_Ev_memberWith zz) 28 ls st h c n = (o_iload 1 1) r (mx_G r (t_Ev_memberWith zz)) 28 ls st h c n := mx_G_eq (tm_Ev_memberWith zz) r 28 ls st h c n
theorem st_Ev_memberWith_29 (zz : Nat × Nat) (r : mx_T) (ls : mx_L) (st : List Value) (h : mx_H) (c n : Nat) : mx_G r (t_Ev_memberWith zz) 29 ls st h c n = (o_icmp 35 (fun x y => ¬ x = y)) r (mx_G r (t_Ev_memberWith zz)) 29 ls st h c n := mx_G_eq (tm_Ev_memberWith zz) r 29 ls st h c n
theorem st_Ev_memberWith_32 (zz : Nat × Nat) (r : mx_T) (ls : mx_L) (st : List Value) (h : mx_H) (c n : Nat) : mx_G r (t_Ev_memberWith zz) 32 ls st h c n = (o_aload 2 5) r (mx_G r (t_Ev_memberWith zz)) 32 ls st h c n := mx_G_eq (tm_Ev_memberWith zz) r 32 ls st h c n
theorem st_Ev_memberWith_34 (zz : Nat × Nat) (r : mx_T) (ls : mx_L) (st : List Value) (h : mx_H) (c n : Nat) : mx_G r (t_Ev_memberWith zz) 34 ls st h c n = (o_aret) r (mx_G r (t_Ev_memberWith zz)) 34 ls st h c n := mx_G_eq (tm_Ev_memberWith zz) r 34 ls st h c n
theorem st_Ev_memberWith_35 (zz : Nat × Nat) (r : mx_T) (ls : mx_L) (st : List Value) (h : mx_H) (c n : Nat) : mx_G r (t_Ev_memberWith zz) 35 ls st h c n = (o_iinc 4 1) r (mx_G r (t_Ev_memberWith zz)) 35 ls st h c n := mx_G_eq (tm_Ev_memberWith zz) r 35 ls st h c n
theorem st_Ev_memberWith_38 (zz : Nat × Nat) (r : mx_T) (ls : mx_L) (st : List Value) (h : mx_H) (c n : Nat) : mx_G r (t_Ev_memberWith zz) 38 ls st h c n = (o_goto 11) r (mx_G r (t_Ev_memberWith zz)) 38 ls st h c n := mx_G_eq (tm_Ev_memberWith zz) r 38 ls st h c n
theorem st_Ev_memberWith_41 (zz : Nat × Nat) (r : mx_T) (ls : mx_L) (st : List Value) (h : mx_H) (c n : Nat) : mx_G r (t_Ev_memberWith zz) 41 ls st h c n = (o_push 1 .null) r (mx_G r (t_Ev_memberWith zz)) 41 ls st h c n := mx_G_eq (tm_Ev_memberWith zz) r 41 ls st h c n
theorem st_Ev_memberWith_42 (zz : Nat × Nat) (r : mx_T) (ls : mx_L) (st : List Value) (h : mx_H) (c n : Nat) : mx_G r (t_Ev_memberWith zz) 42 ls st h c n = (o_aret) r (mx_G r (t_Ev_memberWith zz)) 42 ls st h c n := mx_G_eq (tm_Ev_memberWith zz) r 42 ls st h c n
theorem d_Wi_breakOffAfter_0 : decode c_Wi_breakOffAfter 0 = .ok (.aload_n 0, 1) := by decide +kernel
theorem d_Wi_breakOffAfter_1 : decode c_Wi_breakOffAfter 1 = .ok (.iload_n 1, 1) := by decide +kernel
theorem d_Wi_breakOffAfter_2 : decode c_Wi_breakOffAfter 2 = .ok (.invokevirtual 42, 3) := by decide +kernel
theorem d_Wi_breakOffAfter_5 : decode c_Wi_breakOffAfter 5 = .ok (.aload_n 0, 1) := by decide +kernel
theorem d_Wi_breakOffAfter_6 : decode c_Wi_breakOffAfter 6 = .ok (.invokevirtual 50, 3) := by decide +kernel
theorem d_Wi_breakOffAfter_9 : decode c_Wi_breakOffAfter 9 = .ok (.return_, 1) := by decide +kernel
def t_Wi_breakOffAfter (zz : Nat × Nat) : List (Nat × mx_O) := [(0, o_aload 1 0),
  (1, o_iload 1 1),
  (2, o_call 0 0 2 0 0 (mx_rv 8) (S_Wi_add zz)),
  (5, o_aload 1 0),
  (6, o_call 0 0 1 0 0 (mx_rv 8) (S_Wi_disturb zz)),
  (9, o_vret)]
set_option maxRecDepth 100000 in
theorem tm_Wi_breakOffAfter (zz : Nat × Nat) : mx_All (fun _ o => mx_Mono o) (t_Wi_breakOffAfter zz) := by
  refine mx_all_cons (mo_st) ?_
  refine mx_all_cons (mo_st) ?_
  refine mx_all_cons (mo_call (sm_Wi_add zz)) ?_
  refine mx_all_cons (mo_st) ?_
  refine mx_all_cons (mo_call (sm_Wi_disturb zz)) ?_
  refine mx_all_cons (mo_ret) ?_
  exact mx_all_nil
def S_Wi_breakOffAfter (zz : Nat × Nat) : mx_Sp := mx_S 2 0 0 (t_Wi_breakOffAfter zz)
theorem sm_Wi_breakOffAfter (zz : Nat × Nat) : mx_SMono (S_Wi_breakOffAfter zz) := mx_S_mono (tm_Wi_breakOffAfter zz)
abbrev rm_Wi_breakOffAfter : Room := { frames := 1, cells := 0, slots := 0, locals := 21 }
set_option maxHeartbeats 4000000 in
set_option maxRecDepth 100000 in
theorem m_Wi_breakOffAfter (l : Launch) (zz : Nat × Nat) : mx_Met l y_Wi_breakOffAfter (wsOf y_Wi_breakOffAfter c_Wi_breakOffAfter 2 none) rm_Wi_breakOffAfter wcl (mx_Z zz) 0 0 (S_Wi_breakOffAfter zz) := by
  refine mx_met (cc := c_Wi_breakOffAfter) (ret := none) (by decide) rfl ?_
  intro p e s m args below meth c D A Post X hz hr hlk hnm
  have hm : ∀ w ∈ mw, w.before args s = true := fun w h => X.1.2.2.2.2 w (List.mem_cons_of_mem _ h)
  refine mx_all_cons (ok_aload (fun hl kk => lv_aload_n X.1.1 X.1.2.1 d_Wi_breakOffAfter_0 rfl hl kk) (fun hl kk => lv_aload_nN X.1.1 X.1.2.1 d_Wi_breakOffAfter_0 rfl hl kk)) ?_
  refine mx_all_cons (ok_iload (fun hl kk => lv_iload_n X.1.1 X.1.2.1 d_Wi_breakOffAfter_1 rfl hl kk)) ?_
  refine mx_all_cons (ok_callV (C := "HeaderSchedule$Wire") (T := T_Wi) (N := 4) X (mx_Zok_Z zz) hz ⟨(Nat.le_of_ble_eq_true rfl), (Nat.le_of_ble_eq_true rfl)⟩ (m_Wi_add l zz) ⟨mx_cwB 1 hm w579 w587 w39 rfl rfl (by decide +kernel) ⟨(Nat.le_of_ble_eq_true rfl), (Nat.le_of_ble_eq_true rfl)⟩, (hm _ w577), hm _ w578⟩ rfl d_Wi_breakOffAfter_2) ?_
  refine mx_all_cons (ok_aload (fun hl kk => lv_aload_n X.1.1 X.1.2.1 d_Wi_breakOffAfter_5 rfl hl kk) (fun hl kk => lv_aload_nN X.1.1 X.1.2.1 d_Wi_breakOffAfter_5 rfl hl kk)) ?_
  refine mx_all_cons (ok_callV (C := "HeaderSchedule$Wire") (T := T_Wi) (N := 4) X (mx_Zok_Z zz) hz ⟨(Nat.le_of_ble_eq_true rfl), (Nat.le_of_ble_eq_true rfl)⟩ (m_Wi_disturb l zz) ⟨mx_cwB 0 hm w596 w593 w39 rfl rfl (by decide +kernel) ⟨(Nat.le_of_ble_eq_true rfl), (Nat.le_of_ble_eq_true rfl)⟩, (hm _ w594), hm _ w595⟩ rfl d_Wi_breakOffAfter_6) ?_
  refine mx_all_cons (ok_vret X hr hlk d_Wi_breakOffAfter_9) ?_
  exact mx_all_nil
theorem st_Wi_breakOffAfter_0 (zz : Nat × Nat) (r : mx_T) (ls : mx_L) (st : List Value) (h : mx_H) (c n : Nat) : mx_G r (t_Wi_breakOffAfter zz) 0 ls st h c n = (o_aload 1 0) r (mx_G r (t_Wi_breakOffAfter zz)) 0 ls st h c n := mx_G_eq (tm_Wi_breakOffAfter zz) r 0 ls st h c n
theorem st_Wi_breakOffAfter_1 (zz : Nat × Nat) (r : mx_T) (ls : mx_L) (st : List Value) (h : mx_H) (c n : Nat) : mx_G r (t_Wi_breakOffAfter zz) 1 ls st h c n = (o_iload 1 1) r (mx_G r (t_Wi_breakOffAfter zz)) 1 ls st h c n := mx_G_eq (tm_Wi_breakOffAfter zz) r 1 ls st h c n
theorem st_Wi_breakOffAfter_2 (zz : Nat × Nat) (r : mx_T) (ls : mx_L) (st : List Value) (h : mx_H) (c n : Nat) : mx_G r (t_Wi_breakOffAfter zz) 2 ls st h c n = (o_call 0 0 2 0 0 (mx_rv 8) (S_Wi_add zz)) r (mx_G r (t_Wi_breakOffAfter zz)) 2 ls st h c n := mx_G_eq (tm_Wi_breakOffAfter zz) r 2 ls st h c n
theorem st_Wi_breakOffAfter_5 (zz : Nat × Nat) (r : mx_T) (ls : mx_L) (st : List Value) (h : mx_H) (c n : Nat) : mx_G r (t_Wi_breakOffAfter zz) 5 ls st h c n = (o_aload 1 0) r (mx_G r (t_Wi_breakOffAfter zz)) 5 ls st h c n := mx_G_eq (tm_Wi_breakOffAfter zz) r 5 ls st h c n
theorem st_Wi_breakOffAfter_6 (zz : Nat × Nat) (r : mx_T) (ls : mx_L) (st : List Value) (h : mx_H) (c n : Nat) : mx_G r (t_Wi_breakOffAfter zz) 6 ls st h c n = (o_call 0 0 1 0 0 (mx_rv 8) (S_Wi_disturb zz)) r (mx_G r (t_Wi_breakOffAfter zz)) 6 ls st h c n := mx_G_eq (tm_Wi_breakOffAfter zz) r 6 ls st h c n
theorem st_Wi_breakOffAfter_9 (zz : Nat × Nat) (r : mx_T) (ls : mx_L) (st : List Value) (h : mx_H) (c n : Nat) : mx_G r (t_Wi_breakOffAfter zz) 9 ls st h c n = (o_vret) r (mx_G r (t_Wi_breakOffAfter zz)) 9 ls st h c n := mx_G_eq (tm_Wi_breakOffAfter zz) r 9 ls st h c n
theorem d_Wi_byteAt_0 : decode c_Wi_byteAt 0 = .ok (.iload_n 1, 1) := by decide +kernel
theorem d_Wi_byteAt_1 : decode c_Wi_byteAt 1 = .ok (.iconst 0, 1) := by decide +kernel
theorem d_Wi_byteAt_2 : decode c_Wi_byteAt 2 = .ok (.aload_n 0, 1) := by decide +kernel
theorem d_Wi_byteAt_3 : decode c_Wi_byteAt 3 = .ok (.getfield 15, 3) := by decide +kernel
theorem d_Wi_byteAt_6 : decode c_Wi_byteAt 6 = .ok (.iconst 1, 1) := by decide +kernel
theorem d_Wi_byteAt_7 : decode c_Wi_byteAt 7 = .ok (.isub, 1) := by decide +kernel
theorem d_Wi_byteAt_8 : decode c_Wi_byteAt 8 = .ok (.invokestatic 25, 3) := by decide +kernel
theorem d_Wi_byteAt_11 : decode c_Wi_byteAt 11 = .ok (.ifCond .eq 12, 3) := by decide +kernel
theorem d_Wi_byteAt_14 : decode c_Wi_byteAt 14 = .ok (.aload_n 0, 1) := by decide +kernel
theorem d_Wi_byteAt_15 : decode c_Wi_byteAt 15 = .ok (.getfield 9, 3) := by decide +kernel
theorem d_Wi_byteAt_18 : decode c_Wi_byteAt 18 = .ok (.iload_n 1, 1) := by decide +kernel
theorem d_Wi_byteAt_19 : decode c_Wi_byteAt 19 = .ok (.iaload, 1) := by decide +kernel
theorem d_Wi_byteAt_20 : decode c_Wi_byteAt 20 = .ok (.goto 4, 3) := by decide +kernel
theorem d_Wi_byteAt_23 : decode c_Wi_byteAt 23 = .ok (.iconst (-1), 1) := by decide +kernel
theorem d_Wi_byteAt_24 : decode c_Wi_byteAt 24 = .ok (.ireturn, 1) := by decide +kernel
def t_Wi_byteAt (zz : Nat × Nat) : List (Nat × mx_O) := [(0, o_iload 1 1),
  (1, o_push 1 (.int 0)),
  (2, o_aload 1 0),
  (3, o_get 8 1),
  (6, o_push 1 (.int 1)),
  (7, o_ii (fun x y => x - y)),
  (8, o_call 0 0 3 0 0 (fun _ _ => True) (S_Hs_isWithin zz)),
  (11, o_if 23 (fun x => x = 0)),
  (14, o_aload 1 0),
  (15, o_get 8 0),
  (18, o_iload 1 1),
  (19, o_iald .int),
  (20, o_goto 24),
  (23, o_push 1 (.int (-1))),
  (24, o_iret)]
set_option maxRecDepth 100000 in
theorem tm_Wi_byteAt (zz : Nat × Nat) : mx_All (fun _ o => mx_Mono o) (t_Wi_byteAt zz) := by
  refine mx_all_cons (mo_st) ?_
  refine mx_all_cons (mo_st) ?_
  refine mx_all_cons (mo_st) ?_
  refine mx_all_cons (mo_st) ?_
  refine mx_all_cons (mo_st) ?_
  refine mx_all_cons (mo_st) ?_
  refine mx_all_cons (mo_call (sm_Hs_isWithin zz)) ?_
  refine mx_all_cons (mo_br) ?_
  refine mx_all_cons (mo_st) ?_
  refine mx_all_cons (mo_st) ?_
  refine mx_all_cons (mo_st) ?_
  refine mx_all_cons (mo_sc) ?_
  refine mx_all_cons (mo_st) ?_
  refine mx_all_cons (mo_st) ?_
  refine mx_all_cons (mo_ret) ?_
  exact mx_all_nil
def S_Wi_byteAt (zz : Nat × Nat) : mx_Sp := mx_S 2 0 0 (t_Wi_byteAt zz)
theorem sm_Wi_byteAt (zz : Nat × Nat) : mx_SMono (S_Wi_byteAt zz) := mx_S_mono (tm_Wi_byteAt zz)
abbrev rm_Wi_byteAt : Room := { frames := 1, cells := 0, slots := 0, locals := 22 }
set_option maxHeartbeats 4000000 in
set_option maxRecDepth 100000 in
theorem m_Wi_byteAt (l : Launch) (zz : Nat × Nat) : mx_Met l y_Wi_byteAt (wsOf y_Wi_byteAt c_Wi_byteAt 2 (some .int)) rm_Wi_byteAt wcl (mx_Z zz) 0 0 (S_Wi_byteAt zz) := by
  refine mx_met (cc := c_Wi_byteAt) (ret := (some .int)) (by decide) rfl ?_
  intro p e s m args below meth c D A Post X hz hr hlk hnm
  have hm : ∀ w ∈ mw, w.before args s = true := fun w h => X.1.2.2.2.2 w (List.mem_cons_of_mem _ h)
  refine mx_all_cons (ok_iload (fun hl kk => lv_iload_n X.1.1 X.1.2.1 d_Wi_byteAt_0 rfl hl kk)) ?_
  refine mx_all_cons (ok_push (fun kk => lv_iconst X.1.1 X.1.2.1 d_Wi_byteAt_1 (by decide) kk)) ?_
  refine mx_all_cons (ok_aload (fun hl kk => lv_aload_n X.1.1 X.1.2.1 d_Wi_byteAt_2 rfl hl kk) (fun hl kk => lv_aload_nN X.1.1 X.1.2.1 d_Wi_byteAt_2 rfl hl kk)) ?_
  refine mx_all_cons (ok_get (C := "HeaderSchedule$Wire") (T := T_Wi) (N := 4) X (mw_up in_Wi) rfl 1 (by decide) (hm _ w143) (fun _ h9 => h9) d_Wi_byteAt_3) ?_
  refine mx_all_cons (ok_push (fun kk => lv_iconst X.1.1 X.1.2.1 d_Wi_byteAt_6 (by decide) kk)) ?_
  refine mx_all_cons (ok_ii (fun kk => lv_isub X.1.1 X.1.2.1 d_Wi_byteAt_7 kk)) ?_
  refine mx_all_cons (ok_callSN X (mx_Zok_Z zz) hz ⟨(Nat.le_of_ble_eq_true rfl), (Nat.le_of_ble_eq_true rfl)⟩ (m_Hs_isWithin l zz) ⟨mx_cnB 3 hm w206 (hz.2.2.1 (.methodLinkNest "HeaderSchedule$Wire" 25 y_Hs_isWithin "HeaderSchedule") (by decide +kernel)) w33 rfl rfl (by decide +kernel) ⟨(Nat.le_of_ble_eq_true rfl), (Nat.le_of_ble_eq_true rfl)⟩, (hm _ w205), trivial⟩ d_Wi_byteAt_8) ?_
  refine mx_all_cons (ok_if (fun kt kf => lv_if_eq X.1.1 X.1.2.1 d_Wi_byteAt_11 (by decide) kt kf)) ?_
  refine mx_all_cons (ok_aload (fun hl kk => lv_aload_n X.1.1 X.1.2.1 d_Wi_byteAt_14 rfl hl kk) (fun hl kk => lv_aload_nN X.1.1 X.1.2.1 d_Wi_byteAt_14 rfl hl kk)) ?_
  refine mx_all_cons (ok_get (C := "HeaderSchedule$Wire") (T := T_Wi) (N := 4) X (mw_up in_Wi) rfl 0 (by decide) (hm _ w142) (fun _ h9 => h9) d_Wi_byteAt_15) ?_
  refine mx_all_cons (ok_iload (fun hl kk => lv_iload_n X.1.1 X.1.2.1 d_Wi_byteAt_18 rfl hl kk)) ?_
  refine mx_all_cons (ok_iald X d_Wi_byteAt_19) ?_
  refine mx_all_cons (ok_goto X d_Wi_byteAt_20 (by decide)) ?_
  refine mx_all_cons (ok_push (fun kk => lv_iconst X.1.1 X.1.2.1 d_Wi_byteAt_23 (by decide) kk)) ?_
  refine mx_all_cons (ok_iret X hr hlk d_Wi_byteAt_24) ?_
  exact mx_all_nil
theorem st_Wi_byteAt_0 (zz : Nat × Nat) (r : mx_T) (ls : mx_L) (st : List Value) (h : mx_H) (c n : Nat) : mx_G r (t_Wi_byteAt zz) 0 ls st h c n = (o_iload 1 1) r (mx_G r (t_Wi_byteAt zz)) 0 ls st h c n := mx_G_eq (tm_Wi_byteAt zz) r 0 ls st h c n
theorem st_Wi_byteAt_1 (zz : Nat × Nat) (r : mx_T) (ls : mx_L) (st : List Value) (h : mx_H) (c n : Nat) : mx_G r (t_Wi_byteAt zz) 1 ls st h c n = (o_push 1 (.int 0)) r (mx_G r (t_Wi_byteAt zz)) 1 ls st h c n := mx_G_eq (tm_Wi_byteAt zz) r 1 ls st h c n
theorem st_Wi_byteAt_2 (zz : Nat × Nat) (r : mx_T) (ls : mx_L) (st : List Value) (h : mx_H) (c n : Nat) : mx_G r (t_Wi_byteAt zz) 2 ls st h c n = (o_aload 1 0) r (mx_G r (t_Wi_byteAt zz)) 2 ls st h c n := mx_G_eq (tm_Wi_byteAt zz) r 2 ls st h c n
theorem st_Wi_byteAt_3 (zz : Nat × Nat) (r : mx_T) (ls : mx_L) (st : List Value) (h : mx_H) (c n : Nat) : mx_G r (t_Wi_byteAt zz) 3 ls st h c n = (o_get 8 1) r (mx_G r (t_Wi_byteAt zz)) 3 ls st h c n := mx_G_eq (tm_Wi_byteAt zz) r 3 ls st h c n
theorem st_Wi_byteAt_6 (zz : Nat × Nat) (r : mx_T) (ls : mx_L) (st : List Value) (h : mx_H) (c n : Nat) : mx_G r (t_Wi_byteAt zz) 6 ls st h c n = (o_push 1 (.int 1)) r (mx_G r (t_Wi_byteAt zz)) 6 ls st h c n := mx_G_eq (tm_Wi_byteAt zz) r 6 ls st h c n
theorem st_Wi_byteAt_7 (zz : Nat × Nat) (r : mx_T) (ls : mx_L) (st : List Value) (h : mx_H) (c n : Nat) : mx_G r (t_Wi_byteAt zz) 7 ls st h c n = (o_ii (fun x y => x - y)) r (mx_G r (t_Wi_byteAt zz)) 7 ls st h c n := mx_G_eq (tm_Wi_byteAt zz) r 7 ls st h c n
theorem st_Wi_byteAt_8 (zz : Nat × Nat) (r : mx_T) (ls : mx_L) (st : List Value) (h : mx_H) (c n : Nat) : mx_G r (t_Wi_byteAt zz) 8 ls st h c n = (o_call 0 0 3 0 0 (fun _ _ => True) (S_Hs_isWithin zz)) r (mx_G r (t_Wi_byteAt zz)) 8 ls st h c n := mx_G_eq (tm_Wi_byteAt zz) r 8 ls st h c n
theorem st_Wi_byteAt_11 (zz : Nat × Nat) (r : mx_T) (ls : mx_L) (st : List Value) (h : mx_H) (c n : Nat) : mx_G r (t_Wi_byteAt zz) 11 ls st h c n = (o_if 23 (fun x => x = 0)) r (mx_G r (t_Wi_byteAt zz)) 11 ls st h c n := mx_G_eq (tm_Wi_byteAt zz) r 11 ls st h c n
theorem st_Wi_byteAt_14 (zz : Nat × Nat) (r : mx_T) (ls : mx_L) (st : List Value) (h : mx_H) (c n : Nat) : mx_G r (t_Wi_byteAt zz) 14 ls st h c n = (o_aload 1 0) r (mx_G r (t_Wi_byteAt zz)) 14 ls st h c n := mx_G_eq (tm_Wi_byteAt zz) r 14 ls st h c n
theorem st_Wi_byteAt_15 (zz : Nat × Nat) (r : mx_T) (ls : mx_L) (st : List Value) (h : mx_H) (c n : Nat) : mx_G r (t_Wi_byteAt zz) 15 ls st h c n = (o_get 8 0) r (mx_G r (t_Wi_byteAt zz)) 15 ls st h c n := mx_G_eq (tm_Wi_byteAt zz) r 15 ls st h c n
theorem st_Wi_byteAt_18 (zz : Nat × Nat) (r : mx_T) (ls : mx_L) (st : List Value) (h : mx_H) (c n : Nat) : mx_G r (t_Wi_byteAt zz) 18 ls st h c n = (o_iload 1 1) r (mx_G r (t_Wi_byteAt zz)) 18 ls st h c n := mx_G_eq (tm_Wi_byteAt zz) r 18 ls st h c n
theorem st_Wi_byteAt_19 (zz : Nat × Nat) (r : mx_T) (ls : mx_L) (st : List Value) (h : mx_H) (c n : Nat) : mx_G r (t_Wi_byteAt zz) 19 ls st h c n = (o_iald .int) r (mx_G r (t_Wi_byteAt zz)) 19 ls st h c n := mx_G_eq (tm_Wi_byteAt zz) r 19 ls st h c n
theorem st_Wi_byteAt_20 (zz : Nat × Nat) (r : mx_T) (ls : mx_L) (st : List Value) (h : mx_H) (c n : Nat) : mx_G r (t_Wi_byteAt zz) 20 ls st h c n = (o_goto 24) r (mx_G r (t_Wi_byteAt zz)) 20 ls st h c n := mx_G_eq (tm_Wi_byteAt zz) r 20 ls st h c n
theorem st_Wi_byteAt_23 (zz : Nat × Nat) (r : mx_T) (ls : mx_L) (st : List Value) (h : mx_H) (c n : Nat) : mx_G r (t_Wi_byteAt zz) 23 ls st h c n = (o_push 1 (.int (-1))) r (mx_G r (t_Wi_byteAt zz)) 23 ls st h c n := mx_G_eq (tm_Wi_byteAt zz) r 23 ls st h c n
theorem st_Wi_byteAt_24 (zz : Nat × Nat) (r : mx_T) (ls : mx_L) (st : List Value) (h : mx_H) (c n : Nat) : mx_G r (t_Wi_byteAt zz) 24 ls st h c n = (o_iret) r (mx_G r (t_Wi_byteAt zz)) 24 ls st h c n := mx_G_eq (tm_Wi_byteAt zz) r 24 ls st h c n
theorem d_Hs_runEvent_0 : decode c_Hs_runEvent 0 = .ok (.aload_n 0, 1) := by decide +kernel
theorem d_Hs_runEvent_1 : decode c_Hs_runEvent 1 = .ok (.getfield 39, 3) := by decide +kernel
theorem d_Hs_runEvent_4 : decode c_Hs_runEvent 4 = .ok (.aload_n 1, 1) := by decide +kernel
theorem d_Hs_runEvent_5 : decode c_Hs_runEvent 5 = .ok (.getfield 277, 3) := by decide +kernel
theorem d_Hs_runEvent_8 : decode c_Hs_runEvent 8 = .ok (.invokevirtual 261, 3) := by decide +kernel
theorem d_Hs_runEvent_11 : decode c_Hs_runEvent 11 = .ok (.aload_n 1, 1) := by decide +kernel
theorem d_Hs_runEvent_12 : decode c_Hs_runEvent 12 = .ok (.invokevirtual 278, 3) := by decide +kernel
theorem d_Hs_runEvent_15 : decode c_Hs_runEvent 15 = .ok (.ifCond .ne 5, 3) := by decide +kernel
theorem d_Hs_runEvent_18 : decode c_Hs_runEvent 18 = .ok (.iconst 2, 1) := by decide +kernel
theorem d_Hs_runEvent_19 : decode c_Hs_runEvent 19 = .ok (.ireturn, 1) := by decide +kernel
theorem d_Hs_runEvent_20 : decode c_Hs_runEvent 20 = .ok (.aload_n 1, 1) := by decide +kernel
theorem d_Hs_runEvent_21 : decode c_Hs_runEvent 21 = .ok (.invokevirtual 281, 3) := by decide +kernel
theorem d_Hs_runEvent_24 : decode c_Hs_runEvent 24 = .ok (.istore_n 2, 1) := by decide +kernel
theorem d_Hs_runEvent_25 : decode c_Hs_runEvent 25 = .ok (.aload_n 1, 1) := by decide +kernel
theorem d_Hs_runEvent_26 : decode c_Hs_runEvent 26 = .ok (.iload_n 2, 1) := by decide +kernel
theorem d_Hs_runEvent_27 : decode c_Hs_runEvent 27 = .ok (.invokevirtual 284, 3) := by decide +kernel
theorem d_Hs_runEvent_30 : decode c_Hs_runEvent 30 = .ok (.astore_n 3, 1) := by decide +kernel
theorem d_Hs_runEvent_31 : decode c_Hs_runEvent 31 = .ok (.aload_n 3, 1) := by decide +kernel
theorem d_Hs_runEvent_32 : decode c_Hs_runEvent 32 = .ok (.ifnull 21, 3) := by decide +kernel
theorem d_Hs_runEvent_35 : decode c_Hs_runEvent 35 = .ok (.aload_n 3, 1) := by decide +kernel
theorem d_Hs_runEvent_36 : decode c_Hs_runEvent 36 = .ok (.getfield 175, 3) := by decide +kernel
theorem d_Hs_runEvent_39 : decode c_Hs_runEvent 39 = .ok (.ifCond .eq 14, 3) := by decide +kernel
theorem d_Hs_runEvent_42 : decode c_Hs_runEvent 42 = .ok (.aload_n 0, 1) := by decide +kernel
theorem d_Hs_runEvent_43 : decode c_Hs_runEvent 43 = .ok (.getfield 39, 3) := by decide +kernel
theorem d_Hs_runEvent_46 : decode c_Hs_runEvent 46 = .ok (.aload_n 3, 1) := by decide +kernel
theorem d_Hs_runEvent_47 : decode c_Hs_runEvent 47 = .ok (.invokevirtual 263, 3) := by decide +kernel
theorem d_Hs_runEvent_50 : decode c_Hs_runEvent 50 = .ok (.goto 11, 3) := by decide +kernel
theorem d_Hs_runEvent_53 : decode c_Hs_runEvent 53 = .ok (.aload_n 0, 1) := by decide +kernel
theorem d_Hs_runEvent_54 : decode c_Hs_runEvent 54 = .ok (.getfield 39, 3) := by decide +kernel
theorem d_Hs_runEvent_57 : decode c_Hs_runEvent 57 = .ok (.iload_n 2, 1) := by decide +kernel
theorem d_Hs_runEvent_58 : decode c_Hs_runEvent 58 = .ok (.invokevirtual 287, 3) := by decide +kernel
theorem d_Hs_runEvent_61 : decode c_Hs_runEvent 61 = .ok (.aload_n 1, 1) := by decide +kernel
theorem d_Hs_runEvent_62 : decode c_Hs_runEvent 62 = .ok (.aload_n 0, 1) := by decide +kernel
theorem d_Hs_runEvent_63 : decode c_Hs_runEvent 63 = .ok (.getfield 39, 3) := by decide +kernel
theorem d_Hs_runEvent_66 : decode c_Hs_runEvent 66 = .ok (.iconst 1, 1) := by decide +kernel
theorem d_Hs_runEvent_67 : decode c_Hs_runEvent 67 = .ok (.invokevirtual 207, 3) := by decide +kernel
theorem d_Hs_runEvent_70 : decode c_Hs_runEvent 70 = .ok (.invokevirtual 284, 3) := by decide +kernel
theorem d_Hs_runEvent_73 : decode c_Hs_runEvent 73 = .ok (.astore 4, 2) := by decide +kernel
theorem d_Hs_runEvent_75 : decode c_Hs_runEvent 75 = .ok (.aload 4, 2) := by decide +kernel
theorem d_Hs_runEvent_77 : decode c_Hs_runEvent 77 = .ok (.ifnull 15, 3) := by decide +kernel
theorem d_Hs_runEvent_80 : decode c_Hs_runEvent 80 = .ok (.aload_n 0, 1) := by decide +kernel
theorem d_Hs_runEvent_81 : decode c_Hs_runEvent 81 = .ok (.getfield 39, 3) := by decide +kernel
theorem d_Hs_runEvent_84 : decode c_Hs_runEvent 84 = .ok (.aload 4, 2) := by decide +kernel
theorem d_Hs_runEvent_86 : decode c_Hs_runEvent 86 = .ok (.invokevirtual 267, 3) := by decide +kernel
theorem d_Hs_runEvent_89 : decode c_Hs_runEvent 89 = .ok (.ifCond .ne 16, 3) := by decide +kernel
theorem d_Hs_runEvent_92 : decode c_Hs_runEvent 92 = .ok (.aload_n 0, 1) := by decide +kernel
theorem d_Hs_runEvent_93 : decode c_Hs_runEvent 93 = .ok (.getfield 32, 3) := by decide +kernel
theorem d_Hs_runEvent_96 : decode c_Hs_runEvent 96 = .ok (.aload_n 1, 1) := by decide +kernel
theorem d_Hs_runEvent_97 : decode c_Hs_runEvent 97 = .ok (.getfield 226, 3) := by decide +kernel
theorem d_Hs_runEvent_100 : decode c_Hs_runEvent 100 = .ok (.putfield 290, 3) := by decide +kernel
theorem d_Hs_runEvent_103 : decode c_Hs_runEvent 103 = .ok (.iconst 4, 1) := by decide +kernel
theorem d_Hs_runEvent_104 : decode c_Hs_runEvent 104 = .ok (.ireturn, 1) := by decide +kernel
theorem d_Hs_runEvent_105 : decode c_Hs_runEvent 105 = .ok (.aload_n 0, 1) := by decide +kernel
theorem d_Hs_runEvent_106 : decode c_Hs_runEvent 106 = .ok (.aload 4, 2) := by decide +kernel
theorem d_Hs_runEvent_108 : decode c_Hs_runEvent 108 = .ok (.invokevirtual 270, 3) := by decide +kernel
theorem d_Hs_runEvent_111 : decode c_Hs_runEvent 111 = .ok (.iconst 1, 1) := by decide +kernel
theorem d_Hs_runEvent_112 : decode c_Hs_runEvent 112 = .ok (.ireturn, 1) := by decide +kernel
def t_Hs_runEvent (zz : Nat × Nat) : List (Nat × mx_O) := [(0, o_aload 1 0),
  (1, o_get 0 6),
  (4, o_aload 1 1),
  (5, o_get 4 0),
  (8, o_call 0 0 2 0 0 (mx_rv 8) (S_Wi_add zz)),
  (11, o_aload 1 1),
  (12, o_call 0 0 1 0 0 (mx_rv 4) (S_Ev_hasPending zz)),
  (15, o_if 20 (fun x => ¬ x = 0)),
  (18, o_push 1 (.int 2)),
  (19, o_iret),
  (20, o_aload 1 1),
  (21, o_call 0 0 1 0 0 (mx_rv 4) (S_Ev_firstByteOnBus zz)),
  (24, o_istore 1 2),
  (25, o_aload 1 1),
  (26, o_iload 1 2),
  (27, o_call 0 0 2 0 0 (mx_rv 4) (S_Ev_memberWith zz)),
  (30, o_astore 1 3),
  (31, o_aload 1 3),
  (32, o_ifnull 53),
  (35, o_aload 1 3),
  (36, o_get 1 7),
  (39, o_if 53 (fun x => x = 0)),
  (42, o_aload 1 0),
  (43, o_get 0 6),
  (46, o_aload 1 3),
  (47, o_call 0 0 2 0 0 (mx_rv 8) (S_Wi_respond zz)),
  (50, o_goto 61),
  (53, o_aload 1 0),
  (54, o_get 0 6),
  (57, o_iload 1 2),
  (58, o_call 0 0 2 0 0 (mx_rv 8) (S_Wi_breakOffAfter zz)),
  (61, o_aload 1 1),
  (62, o_aload 1 0),
  (63, o_get 0 6),
  (66, o_push 1 (.int 1)),
  (67, o_call 0 0 2 0 0 (mx_rv 8) (S_Wi_byteAt zz)),
  (70, o_call 0 0 2 0 0 (mx_rv 4) (S_Ev_memberWith zz)),
  (73, o_astore 2 4),
  (75, o_aload 2 4),
  (77, o_ifnull 92),
  (80, o_aload 1 0),
  (81, o_get 0 6),
  (84, o_aload 2 4),
  (86, o_call 0 0 2 0 0 (mx_rv 8) (S_Wi_isValidFor zz)),
  (89, o_if 105 (fun x => ¬ x = 0)),
  (92, o_aload 1 0),
  (93, o_get 0 5),
  (96, o_aload 1 1),
  (97, o_get 4 2),
  (100, o_put 7 7 mx_vI),
  (103, o_push 1 (.int 4)),
  (104, o_iret),
  (105, o_aload 1 0),
  (106, o_aload 2 4),
  (108, o_call 0 0 2 0 0 (mx_rv 0) (S_Hs_takeIn zz)),
  (111, o_push 1 (.int 1)),
  (112, o_iret)]
set_option maxRecDepth 100000 in
theorem tm_Hs_runEvent (zz : Nat × Nat) : mx_All (fun _ o => mx_Mono o) (t_Hs_runEvent zz) := by
  refine mx_all_cons (mo_st) ?_
  refine mx_all_cons (mo_st) ?_
  refine mx_all_cons (mo_st) ?_
  refine mx_all_cons (mo_st) ?_
  refine mx_all_cons (mo_call (sm_Wi_add zz)) ?_
  refine mx_all_cons (mo_st) ?_
  refine mx_all_cons (mo_call (sm_Ev_hasPending zz)) ?_
  refine mx_all_cons (mo_br) ?_
  refine mx_all_cons (mo_st) ?_
  refine mx_all_cons (mo_ret) ?_
  refine mx_all_cons (mo_st) ?_
  refine mx_all_cons (mo_call (sm_Ev_firstByteOnBus zz)) ?_
  refine mx_all_cons (mo_st) ?_
  refine mx_all_cons (mo_st) ?_
  refine mx_all_cons (mo_st) ?_
  refine mx_all_cons (mo_call (sm_Ev_memberWith zz)) ?_
  refine mx_all_cons (mo_st) ?_
  refine mx_all_cons (mo_st) ?_
  refine mx_all_cons (mo_st) ?_
  refine mx_all_cons (mo_st) ?_
  refine mx_all_cons (mo_st) ?_
  refine mx_all_cons (mo_br) ?_
  refine mx_all_cons (mo_st) ?_
  refine mx_all_cons (mo_st) ?_
  refine mx_all_cons (mo_st) ?_
  refine mx_all_cons (mo_call (sm_Wi_respond zz)) ?_
  refine mx_all_cons (mo_st) ?_
  refine mx_all_cons (mo_st) ?_
  refine mx_all_cons (mo_st) ?_
  refine mx_all_cons (mo_st) ?_
  refine mx_all_cons (mo_call (sm_Wi_breakOffAfter zz)) ?_
  refine mx_all_cons (mo_st) ?_
  refine mx_all_cons (mo_st) ?_
  refine mx_all_cons (mo_st) ?_
  refine mx_all_cons (mo_st) ?_
  refine mx_all_cons (mo_call (sm_Wi_byteAt zz)) ?_
  refine mx_all_cons (mo_call (sm_Ev_memberWith zz)) ?_
  refine mx_all_cons (mo_st) ?_
  refine mx_all_cons (mo_st) ?_
  refine mx_all_cons (mo_st) ?_
  refine mx_all_cons (mo_st) ?_
  refine mx_all_cons (mo_st) ?_
  refine mx_all_cons (mo_st) ?_
  refine mx_all_cons (mo_call (sm_Wi_isValidFor zz)) ?_
  refine mx_all_cons (mo_br) ?_
  refine mx_all_cons (mo_st) ?_
  refine mx_all_cons (mo_st) ?_
  refine mx_all_cons (mo_st) ?_
  refine mx_all_cons (mo_st) ?_
  refine mx_all_cons (mo_sc) ?_
  refine mx_all_cons (mo_st) ?_
  refine mx_all_cons (mo_ret) ?_
  refine mx_all_cons (mo_st) ?_
  refine mx_all_cons (mo_st) ?_
  refine mx_all_cons (mo_call (sm_Hs_takeIn zz)) ?_
  refine mx_all_cons (mo_st) ?_
  refine mx_all_cons (mo_ret) ?_
  exact mx_all_nil
def S_Hs_runEvent (zz : Nat × Nat) : mx_Sp := mx_S 5 0 0 (t_Hs_runEvent zz)
theorem sm_Hs_runEvent (zz : Nat × Nat) : mx_SMono (S_Hs_runEvent zz) := mx_S_mono (tm_Hs_runEvent zz)
abbrev rm_Hs_runEvent : Room := { frames := 4, cells := 0, slots := 0, locals := 89 }
set_option maxHeartbeats 4000000 in
set_option maxRecDepth 100000 in
theorem m_Hs_runEvent (l : Launch) (zz : Nat × Nat) : mx_Met l y_Hs_runEvent (wsOf y_Hs_runEvent c_Hs_runEvent 5 (some .int)) rm_Hs_runEvent wcl (mx_Z zz) 0 0 (S_Hs_runEvent zz) := by
  refine mx_met (cc := c_Hs_runEvent) (ret := (some .int)) (by decide) rfl ?_
  intro p e s m args below meth c D A Post X hz hr hlk hnm
  have hm : ∀ w ∈ mw, w.before args s = true := fun w h => X.1.2.2.2.2 w (List.mem_cons_of_mem _ h)
  refine mx_all_cons (ok_aload (fun hl kk => lv_aload_n X.1.1 X.1.2.1 d_Hs_runEvent_0 rfl hl kk) (fun hl kk => lv_aload_nN X.1.1 X.1.2.1 d_Hs_runEvent_0 rfl hl kk)) ?_
  refine mx_all_cons (ok_get (C := "HeaderSchedule") (T := T_Hs) (N := 11) X (mw_up in_Hs) rfl 6 (by decide) (hm _ w164) (fun _ h9 => h9) d_Hs_runEvent_1) ?_
  refine mx_all_cons (ok_aload (fun hl kk => lv_aload_n X.1.1 X.1.2.1 d_Hs_runEvent_4 rfl hl kk) (fun hl kk => lv_aload_nN X.1.1 X.1.2.1 d_Hs_runEvent_4 rfl hl kk)) ?_
  refine mx_all_cons (ok_get (C := "HeaderSchedule$Event") (T := T_Ev) (N := 3) X (mw_up in_Ev) rfl 0 (by decide) (hm _ w435) (fun _ h9 => h9) d_Hs_runEvent_5) ?_
  refine mx_all_cons (ok_callV (C := "HeaderSchedule$Wire") (T := T_Wi) (N := 4) X (mx_Zok_Z zz) hz ⟨(Nat.le_of_ble_eq_true rfl), (Nat.le_of_ble_eq_true rfl)⟩ (m_Wi_add l zz) ⟨mx_cwB 1 hm w579 w576 w39 rfl rfl (by decide +kernel) ⟨(Nat.le_of_ble_eq_true rfl), (Nat.le_of_ble_eq_true rfl)⟩, (hm _ w577), hm _ w578⟩ rfl d_Hs_runEvent_8) ?_
  refine mx_all_cons (ok_aload (fun hl kk => lv_aload_n X.1.1 X.1.2.1 d_Hs_runEvent_11 rfl hl kk) (fun hl kk => lv_aload_nN X.1.1 X.1.2.1 d_Hs_runEvent_11 rfl hl kk)) ?_
  refine mx_all_cons (ok_callV (C := "HeaderSchedule$Event") (T := T_Ev) (N := 3) X (mx_Zok_Z zz) hz ⟨(Nat.le_of_ble_eq_true rfl), (Nat.le_of_ble_eq_true rfl)⟩ (m_Ev_hasPending l zz) ⟨mx_cwB 0 hm w629 w626 w50 rfl rfl (by decide +kernel) ⟨(Nat.le_of_ble_eq_true rfl), (Nat.le_of_ble_eq_true rfl)⟩, (hm _ w627), hm _ w628⟩ rfl d_Hs_runEvent_12) ?_
  refine mx_all_cons (ok_if (fun kt kf => lv_if_ne X.1.1 X.1.2.1 d_Hs_runEvent_15 (by decide) kt (fun z => kf (fun g => g z)))) ?_
  refine mx_all_cons (ok_push (fun kk => lv_iconst X.1.1 X.1.2.1 d_Hs_runEvent_18 (by decide) kk)) ?_
  refine mx_all_cons (ok_iret X hr hlk d_Hs_runEvent_19) ?_
  refine mx_all_cons (ok_aload (fun hl kk => lv_aload_n X.1.1 X.1.2.1 d_Hs_runEvent_20 rfl hl kk) (fun hl kk => lv_aload_nN X.1.1 X.1.2.1 d_Hs_runEvent_20 rfl hl kk)) ?_
  refine mx_all_cons (ok_callV (C := "HeaderSchedule$Event") (T := T_Ev) (N := 3) X (mx_Zok_Z zz) hz ⟨(Nat.le_of_ble_eq_true rfl), (Nat.le_of_ble_eq_true rfl)⟩ (m_Ev_firstByteOnBus l zz) ⟨mx_cwB 0 hm w633 w630 w50 rfl rfl (by decide +kernel) ⟨(Nat.le_of_ble_eq_true rfl), (Nat.le_of_ble_eq_true rfl)⟩, (hm _ w631), hm _ w632⟩ rfl d_Hs_runEvent_21) ?_
  refine mx_all_cons (ok_istore (fun hl kk => lv_istore_n X.1.1 X.1.2.1 d_Hs_runEvent_24 rfl hl (by decide) rfl kk)) ?_
  refine mx_all_cons (ok_aload (fun hl kk => lv_aload_n X.1.1 X.1.2.1 d_Hs_runEvent_25 rfl hl kk) (fun hl kk => lv_aload_nN X.1.1 X.1.2.1 d_Hs_runEvent_25 rfl hl kk)) ?_
  refine mx_all_cons (ok_iload (fun hl kk => lv_iload_n X.1.1 X.1.2.1 d_Hs_runEvent_26 rfl hl kk)) ?_
  refine mx_all_cons (ok_callV (C := "HeaderSchedule$Event") (T := T_Ev) (N := 3) X (mx_Zok_Z zz) hz ⟨(Nat.le_of_ble_eq_true rfl), (Nat.le_of_ble_eq_true rfl)⟩ (m_Ev_memberWith l zz) ⟨mx_cwB 1 hm w637 w634 w50 rfl rfl (by decide +kernel) ⟨(Nat.le_of_ble_eq_true rfl), (Nat.le_of_ble_eq_true rfl)⟩, (hm _ w635), hm _ w636⟩ rfl d_Hs_runEvent_27) ?_
  refine mx_all_cons (ok_astore (fun hl kk => lv_astore_n X.1.1 X.1.2.1 d_Hs_runEvent_30 rfl hl (by decide) rfl kk) (fun hl kk => lv_astore_nN X.1.1 X.1.2.1 d_Hs_runEvent_30 rfl hl (by decide) rfl kk)) ?_
  refine mx_all_cons (ok_aload (fun hl kk => lv_aload_n X.1.1 X.1.2.1 d_Hs_runEvent_31 rfl hl kk) (fun hl kk => lv_aload_nN X.1.1 X.1.2.1 d_Hs_runEvent_31 rfl hl kk)) ?_
  refine mx_all_cons (ok_ifnull X d_Hs_runEvent_32 (by decide)) ?_
  refine mx_all_cons (ok_aload (fun hl kk => lv_aload_n X.1.1 X.1.2.1 d_Hs_runEvent_35 rfl hl kk) (fun hl kk => lv_aload_nN X.1.1 X.1.2.1 d_Hs_runEvent_35 rfl hl kk)) ?_
  refine mx_all_cons (ok_get (C := "HeaderSchedule$Frame") (T := T_Fr) (N := 8) X (mw_up in_Fr) rfl 7 (by decide) (hm _ w239) (fun _ h9 => h9) d_Hs_runEvent_36) ?_
  refine mx_all_cons (ok_if (fun kt kf => lv_if_eq X.1.1 X.1.2.1 d_Hs_runEvent_39 (by decide) kt kf)) ?_
  refine mx_all_cons (ok_aload (fun hl kk => lv_aload_n X.1.1 X.1.2.1 d_Hs_runEvent_42 rfl hl kk) (fun hl kk => lv_aload_nN X.1.1 X.1.2.1 d_Hs_runEvent_42 rfl hl kk)) ?_
  refine mx_all_cons (ok_get (C := "HeaderSchedule") (T := T_Hs) (N := 11) X (mw_up in_Hs) rfl 6 (by decide) (hm _ w164) (fun _ h9 => h9) d_Hs_runEvent_43) ?_
  refine mx_all_cons (ok_aload (fun hl kk => lv_aload_n X.1.1 X.1.2.1 d_Hs_runEvent_46 rfl hl kk) (fun hl kk => lv_aload_nN X.1.1 X.1.2.1 d_Hs_runEvent_46 rfl hl kk)) ?_
  refine mx_all_cons (ok_callV (C := "HeaderSchedule$Wire") (T := T_Wi) (N := 4) X (mx_Zok_Z zz) hz ⟨(Nat.le_of_ble_eq_true rfl), (Nat.le_of_ble_eq_true rfl)⟩ (m_Wi_respond l zz) ⟨mx_cwB 1 hm w583 w580 w39 rfl rfl (by decide +kernel) ⟨(Nat.le_of_ble_eq_true rfl), (Nat.le_of_ble_eq_true rfl)⟩, (hm _ w581), hm _ w582⟩ rfl d_Hs_runEvent_47) ?_
  refine mx_all_cons (ok_goto X d_Hs_runEvent_50 (by decide)) ?_
  refine mx_all_cons (ok_aload (fun hl kk => lv_aload_n X.1.1 X.1.2.1 d_Hs_runEvent_53 rfl hl kk) (fun hl kk => lv_aload_nN X.1.1 X.1.2.1 d_Hs_runEvent_53 rfl hl kk)) ?_
  refine mx_all_cons (ok_get (C := "HeaderSchedule") (T := T_Hs) (N := 11) X (mw_up in_Hs) rfl 6 (by decide) (hm _ w164) (fun _ h9 => h9) d_Hs_runEvent_54) ?_
  refine mx_all_cons (ok_iload (fun hl kk => lv_iload_n X.1.1 X.1.2.1 d_Hs_runEvent_57 rfl hl kk)) ?_
  refine mx_all_cons (ok_callV (C := "HeaderSchedule$Wire") (T := T_Wi) (N := 4) X (mx_Zok_Z zz) hz ⟨(Nat.le_of_ble_eq_true rfl), (Nat.le_of_ble_eq_true rfl)⟩ (m_Wi_breakOffAfter l zz) ⟨mx_cwB 1 hm w641 w638 w39 rfl rfl (by decide +kernel) ⟨(Nat.le_of_ble_eq_true rfl), (Nat.le_of_ble_eq_true rfl)⟩, (hm _ w639), hm _ w640⟩ rfl d_Hs_runEvent_58) ?_
  refine mx_all_cons (ok_aload (fun hl kk => lv_aload_n X.1.1 X.1.2.1 d_Hs_runEvent_61 rfl hl kk) (fun hl kk => lv_aload_nN X.1.1 X.1.2.1 d_Hs_runEvent_61 rfl hl kk)) ?_
  refine mx_all_cons (ok_aload (fun hl kk => lv_aload_n X.1.1 X.1.2.1 d_Hs_runEvent_62 rfl hl kk) (fun hl kk => lv_aload_nN X.1.1 X.1.2.1 d_Hs_runEvent_62 rfl hl kk)) ?_
  refine mx_all_cons (ok_get (C := "HeaderSchedule") (T := T_Hs) (N := 11) X (mw_up in_Hs) rfl 6 (by decide) (hm _ w164) (fun _ h9 => h9) d_Hs_runEvent_63) ?_
  refine mx_all_cons (ok_push (fun kk => lv_iconst X.1.1 X.1.2.1 d_Hs_runEvent_66 (by decide) kk)) ?_
  refine mx_all_cons (ok_callV (C := "HeaderSchedule$Wire") (T := T_Wi) (N := 4) X (mx_Zok_Z zz) hz ⟨(Nat.le_of_ble_eq_true rfl), (Nat.le_of_ble_eq_true rfl)⟩ (m_Wi_byteAt l zz) ⟨mx_cwB 1 hm w645 w642 w39 rfl rfl (by decide +kernel) ⟨(Nat.le_of_ble_eq_true rfl), (Nat.le_of_ble_eq_true rfl)⟩, (hm _ w643), hm _ w644⟩ rfl d_Hs_runEvent_67) ?_
  refine mx_all_cons (ok_callV (C := "HeaderSchedule$Event") (T := T_Ev) (N := 3) X (mx_Zok_Z zz) hz ⟨(Nat.le_of_ble_eq_true rfl), (Nat.le_of_ble_eq_true rfl)⟩ (m_Ev_memberWith l zz) ⟨mx_cwB 1 hm w637 w634 w50 rfl rfl (by decide +kernel) ⟨(Nat.le_of_ble_eq_true rfl), (Nat.le_of_ble_eq_true rfl)⟩, (hm _ w635), hm _ w636⟩ rfl d_Hs_runEvent_70) ?_
  refine mx_all_cons (ok_astore (fun hl kk => lv_astore X.1.1 X.1.2.1 d_Hs_runEvent_73 hl (by decide) rfl kk) (fun hl kk => lv_astoreN X.1.1 X.1.2.1 d_Hs_runEvent_73 hl (by decide) rfl kk)) ?_
  refine mx_all_cons (ok_aload (fun hl kk => lv_aload X.1.1 X.1.2.1 d_Hs_runEvent_75 hl kk) (fun hl kk => lv_aloadN X.1.1 X.1.2.1 d_Hs_runEvent_75 hl kk)) ?_
  refine mx_all_cons (ok_ifnull X d_Hs_runEvent_77 (by decide)) ?_
  refine mx_all_cons (ok_aload (fun hl kk => lv_aload_n X.1.1 X.1.2.1 d_Hs_runEvent_80 rfl hl kk) (fun hl kk => lv_aload_nN X.1.1 X.1.2.1 d_Hs_runEvent_80 rfl hl kk)) ?_
  refine mx_all_cons (ok_get (C := "HeaderSchedule") (T := T_Hs) (N := 11) X (mw_up in_Hs) rfl 6 (by decide) (hm _ w164) (fun _ h9 => h9) d_Hs_runEvent_81) ?_
  refine mx_all_cons (ok_aload (fun hl kk => lv_aload X.1.1 X.1.2.1 d_Hs_runEvent_84 hl kk) (fun hl kk => lv_aloadN X.1.1 X.1.2.1 d_Hs_runEvent_84 hl kk)) ?_
  refine mx_all_cons (ok_callV (C := "HeaderSchedule$Wire") (T := T_Wi) (N := 4) X (mx_Zok_Z zz) hz ⟨(Nat.le_of_ble_eq_true rfl), (Nat.le_of_ble_eq_true rfl)⟩ (m_Wi_isValidFor l zz) ⟨mx_cwB 1 hm w600 w597 w39 rfl rfl (by decide +kernel) ⟨(Nat.le_of_ble_eq_true rfl), (Nat.le_of_ble_eq_true rfl)⟩, (hm _ w598), hm _ w599⟩ rfl d_Hs_runEvent_86) ?_
  refine mx_all_cons (ok_if (fun kt kf => lv_if_ne X.1.1 X.1.2.1 d_Hs_runEvent_89 (by decide) kt (fun z => kf (fun g => g z)))) ?_
  refine mx_all_cons (ok_aload (fun hl kk => lv_aload_n X.1.1 X.1.2.1 d_Hs_runEvent_92 rfl hl kk) (fun hl kk => lv_aload_nN X.1.1 X.1.2.1 d_Hs_runEvent_92 rfl hl kk)) ?_
  refine mx_all_cons (ok_get (C := "HeaderSchedule") (T := T_Hs) (N := 11) X (mw_up in_Hs) rfl 5 (by decide) (hm _ w163) (fun _ h9 => h9) d_Hs_runEvent_93) ?_
  refine mx_all_cons (ok_aload (fun hl kk => lv_aload_n X.1.1 X.1.2.1 d_Hs_runEvent_96 rfl hl kk) (fun hl kk => lv_aload_nN X.1.1 X.1.2.1 d_Hs_runEvent_96 rfl hl kk)) ?_
  refine mx_all_cons (ok_get (C := "HeaderSchedule$Event") (T := T_Ev) (N := 3) X (mw_up in_Ev) rfl 2 (by decide) (hm _ w439) (fun _ h9 => h9) d_Hs_runEvent_97) ?_
  refine mx_all_cons (ok_put (C := "HeaderSchedule$Schedule") (T := T_Sc) (N := 8) X (mw_up in_Sc) ty_Sc tyok_Sc nm_Sc rfl 7 (by decide) (hm _ w118) (fun _ h9 => h9) rfl (tyok_Sc 7 (by decide)) mx_vI_ok d_Hs_runEvent_100) ?_
  refine mx_all_cons (ok_push (fun kk => lv_iconst X.1.1 X.1.2.1 d_Hs_runEvent_103 (by decide) kk)) ?_
  refine mx_all_cons (ok_iret X hr hlk d_Hs_runEvent_104) ?_
  refine mx_all_cons (ok_aload (fun hl kk => lv_aload_n X.1.1 X.1.2.1 d_Hs_runEvent_105 rfl hl kk) (fun hl kk => lv_aload_nN X.1.1 X.1.2.1 d_Hs_runEvent_105 rfl hl kk)) ?_
  refine mx_all_cons (ok_aload (fun hl kk => lv_aload X.1.1 X.1.2.1 d_Hs_runEvent_106 hl kk) (fun hl kk => lv_aloadN X.1.1 X.1.2.1 d_Hs_runEvent_106 hl kk)) ?_
  refine mx_all_cons (ok_callV (C := "HeaderSchedule") (T := T_Hs) (N := 11) X (mx_Zok_Z zz) hz ⟨(Nat.le_of_ble_eq_true rfl), (Nat.le_of_ble_eq_true rfl)⟩ (m_Hs_takeIn l zz) ⟨mx_cwB 1 hm w608 w605 w33 rfl rfl (by decide +kernel) ⟨(Nat.le_of_ble_eq_true rfl), (Nat.le_of_ble_eq_true rfl)⟩, (hm _ w607), hm _ w13⟩ rfl d_Hs_runEvent_108) ?_
  refine mx_all_cons (ok_push (fun kk => lv_iconst X.1.1 X.1.2.1 d_Hs_runEvent_111 (by decide) kk)) ?_
  refine mx_all_cons (ok_iret X hr hlk d_Hs_runEvent_112) ?_
  exact mx_all_nil
theorem st_Hs_runEvent_0 (zz : Nat × Nat) (r : mx_T) (ls : mx_L) (st : List Value) (h : mx_H) (c n : Nat) : mx_G r (t_Hs_runEvent zz) 0 ls st h c n = (o_aload 1 0) r (mx_G r (t_Hs_runEvent zz)) 0 ls st h c n := mx_G_eq (tm_Hs_runEvent zz) r 0 ls st h c n
theorem st_Hs_runEvent_1 (zz : Nat × Nat) (r : mx_T) (ls : mx_L) (st : List Value) (h : mx_H) (c n : Nat) : mx_G r (t_Hs_runEvent zz) 1 ls st h c n = (o_get 0 6) r (mx_G r (t_Hs_runEvent zz)) 1 ls st h c n := mx_G_eq (tm_Hs_runEvent zz) r 1 ls st h c n
theorem st_Hs_runEvent_4 (zz : Nat × Nat) (r : mx_T) (ls : mx_L) (st : List Value) (h : mx_H) (c n : Nat) : mx_G r (t_Hs_runEvent zz) 4 ls st h c n = (o_aload 1 1) r (mx_G r (t_Hs_runEvent zz)) 4 ls st h c n := mx_G_eq (tm_Hs_runEvent zz) r 4 ls st h c n
theorem st_Hs_runEvent_5 (zz : Nat × Nat) (r : mx_T) (ls : mx_L) (st : List Value) (h : mx_H) (c n : Nat) : mx_G r (t_Hs_runEvent zz) 5 ls st h c n = (o_get 4 0) r (mx_G r (t_Hs_runEvent zz)) 5 ls st h c n := mx_G_eq (tm_Hs_runEvent zz) r 5 ls st h c n
theorem st_Hs_runEvent_8 (zz : Nat × Nat) (r : mx_T) (ls : mx_L) (st : List Value) (h : mx_H) (c n : Nat) : mx_G r (t_Hs_runEvent zz) 8 ls st h c n = (o_call 0 0 2 0 0 (mx_rv 8) (S_Wi_add zz)) r (mx_G r (t_Hs_runEvent zz)) 8 ls st h c n := mx_G_eq (tm_Hs_runEvent zz) r 8 ls st h c n
theorem st_Hs_runEvent_11 (zz : Nat × Nat) (r : mx_T) (ls : mx_L) (st : List Value) (h : mx_H) (c n : Nat) : mx_G r (t_Hs_runEvent zz) 11 ls st h c n = (o_aload 1 1) r (mx_G r (t_Hs_runEvent zz)) 11 ls st h c n := mx_G_eq (tm_Hs_runEvent zz) r 11 ls st h c n
theorem st_Hs_runEvent_12 (zz : Nat × Nat) (r : mx_T) (ls : mx_L) (st : List Value) (h : mx_H) (c n : Nat) : mx_G r (t_Hs_runEvent zz) 12 ls st h c n = (o_call 0 0 1 0 0 (mx_rv 4) (S_Ev_hasPending zz)) r (mx_G r (t_Hs_runEvent zz)) 12 ls st h c n := mx_G_eq (tm_Hs_runEvent zz) r 12 ls st h c n
theorem st_Hs_runEvent_15 (zz : Nat × Nat) (r : mx_T) (ls : mx_L) (st : List Value) (h : mx_H) (c n : Nat) : mx_G r (t_Hs_runEvent zz) 15 ls st h c n = (o_if 20 (fun x => ¬ x = 0)) r (mx_G r (t_Hs_runEvent zz)) 15 ls st h c n := mx_G_eq (tm_Hs_runEvent zz) r 15 ls st h c n
theorem st_Hs_runEvent_18 (zz : Nat × Nat) (r : mx_T) (ls : mx_L) (st : List Value) (h : mx_H) (c n : Nat) : mx_G r (t_Hs_runEvent zz) 18 ls st h c n = (o_push 1 (.int 2)) r (mx_G r (t_Hs_runEvent zz)) 18 ls st h c n := mx_G_eq (tm_Hs_runEvent zz) r 18 ls st h c n
theorem st_Hs_runEvent_19 (zz : Nat × Nat) (r : mx_T) (ls : mx_L) (st : List Value) (h : mx_H) (c n : Nat) : mx_G r (t_Hs_runEvent zz) 19 ls st h c n = (o_iret) r (mx_G r (t_Hs_runEvent zz)) 19 ls st h c n := mx_G_eq (tm_Hs_runEvent zz) r 19 ls st h c n
theorem st_Hs_runEvent_20 (zz : Nat × Nat) (r : mx_T) (ls : mx_L) (st : List Value) (h : mx_H) (c n : Nat) : mx_G r (t_Hs_runEvent zz) 20 ls st h c n = (o_aload 1 1) r (mx_G r (t_Hs_runEvent zz)) 20 ls st h c n := mx_G_eq (tm_Hs_runEvent zz) r 20 ls st h c n
theorem st_Hs_runEvent_21 (zz : Nat × Nat) (r : mx_T) (ls : mx_L) (st : List Value) (h : mx_H) (c n : Nat) : mx_G r (t_Hs_runEvent zz) 21 ls st h c n = (o_call 0 0 1 0 0 (mx_rv 4) (S_Ev_firstByteOnBus zz)) r (mx_G r (t_Hs_runEvent zz)) 21 ls st h c n := mx_G_eq (tm_Hs_runEvent zz) r 21 ls st h c n
theorem st_Hs_runEvent_24 (zz : Nat × Nat) (r : mx_T) (ls : mx_L) (st : List Value) (h : mx_H) (c n : Nat) : mx_G r (t_Hs_runEvent zz) 24 ls st h c n = (o_istore 1 2) r (mx_G r (t_Hs_runEvent zz)) 24 ls st h c n := mx_G_eq (tm_Hs_runEvent zz) r 24 ls st h c n
theorem st_Hs_runEvent_25 (zz : Nat × Nat) (r : mx_T) (ls : mx_L) (st : List Value) (h : mx_H) (c n : Nat) : mx_G r (t_Hs_runEvent zz) 25 ls st h c n = (o_aload 1 1) r (mx_G r (t_Hs_runEvent zz)) 25 ls st h c n := mx_G_eq (tm_Hs_runEvent zz) r 25 ls st h c n
theorem st_Hs_runEvent_26 (zz : Nat × Nat) (r : mx_T) (ls : mx_L) (st : List Value) (h : mx_H) (c n : Nat) : mx_G r (t_Hs_runEvent zz) 26 ls st h c n = (o_iload 1 2) r (mx_G r (t_Hs_runEvent zz)) 26 ls st h c n := mx_G_eq (tm_Hs_runEvent zz) r 26 ls st h c n
theorem st_Hs_runEvent_27 (zz : Nat × Nat) (r : mx_T) (ls : mx_L) (st : List Value) (h : mx_H) (c n : Nat) : mx_G r (t_Hs_runEvent zz) 27 ls st h c n = (o_call 0 0 2 0 0 (mx_rv 4) (S_Ev_memberWith zz)) r (mx_G r (t_Hs_runEvent zz)) 27 ls st h c n := mx_G_eq (tm_Hs_runEvent zz) r 27 ls st h c n
theorem st_Hs_runEvent_30 (zz : Nat × Nat) (r : mx_T) (ls : mx_L) (st : List Value) (h : mx_H) (c n : Nat) : mx_G r (t_Hs_runEvent zz) 30 ls st h c n = (o_astore 1 3) r (mx_G r (t_Hs_runEvent zz)) 30 ls st h c n := mx_G_eq (tm_Hs_runEvent zz) r 30 ls st h c n
theorem st_Hs_runEvent_31 (zz : Nat × Nat) (r : mx_T) (ls : mx_L) (st : List Value) (h : mx_H) (c n : Nat) : mx_G r (t_Hs_runEvent zz) 31 ls st h c n = (o_aload 1 3) r (mx_G r (t_Hs_runEvent zz)) 31 ls st h c n := mx_G_eq (tm_Hs_runEvent zz) r 31 ls st h c n
theorem st_Hs_runEvent_32 (zz : Nat × Nat) (r : mx_T) (ls : mx_L) (st : List Value) (h : mx_H) (c n : Nat) : mx_G r (t_Hs_runEvent zz) 32 ls st h c n = (o_ifnull 53) r (mx_G r (t_Hs_runEvent zz)) 32 ls st h c n := mx_G_eq (tm_Hs_runEvent zz) r 32 ls st h c n
theorem st_Hs_runEvent_35 (zz : Nat × Nat) (r : mx_T) (ls : mx_L) (st : List Value) (h : mx_H) (c n : Nat) : mx_G r (t_Hs_runEvent zz) 35 ls st h c n = (o_aload 1 3) r (mx_G r (t_Hs_runEvent zz)) 35 ls st h c n := mx_G_eq (tm_Hs_runEvent zz) r 35 ls st h c n
theorem st_Hs_runEvent_36 (zz : Nat × Nat) (r : mx_T) (ls : mx_L) (st : List Value) (h : mx_H) (c n : Nat) : mx_G r (t_Hs_runEvent zz) 36 ls st h c n = (o_get 1 7) r (mx_G r (t_Hs_runEvent zz)) 36 ls st h c n := mx_G_eq (tm_Hs_runEvent zz) r 36 ls st h c n
theorem st_Hs_runEvent_39 (zz : Nat × Nat) (r : mx_T) (ls : mx_L) (st : List Value) (h : mx_H) (c n : Nat) : mx_G r (t_Hs_runEvent zz) 39 ls st h c n = (o_if 53 (fun x => x = 0)) r (mx_G r (t_Hs_runEvent zz)) 39 ls st h c n := mx_G_eq (tm_Hs_runEvent zz) r 39 ls st h c n
theorem st_Hs_runEvent_42 (zz : Nat × Nat) (r : mx_T) (ls : mx_L) (st : List Value) (h : mx_H) (c n : Nat) : mx_G r (t_Hs_runEvent zz) 42 ls st h c n = (o_aload 1 0) r (mx_G r (t_Hs_runEvent zz)) 42 ls st h c n := mx_G_eq (tm_Hs_runEvent zz) r 42 ls st h c n
theorem st_Hs_runEvent_43 (zz : Nat × Nat) (r : mx_T) (ls : mx_L) (st : List Value) (h : mx_H) (c n : Nat) : mx_G r (t_Hs_runEvent zz) 43 ls st h c n = (o_get 0 6) r (mx_G r (t_Hs_runEvent zz)) 43 ls st h c n := mx_G_eq (tm_Hs_runEvent zz) r 43 ls st h c n
theorem st_Hs_runEvent_46 (zz : Nat × Nat) (r : mx_T) (ls : mx_L) (st : List Value) (h : mx_H) (c n : Nat) : mx_G r (t_Hs_runEvent zz) 46 ls st h c n = (o_aload 1 3) r (mx_G r (t_Hs_runEvent zz)) 46 ls st h c n := mx_G_eq (tm_Hs_runEvent zz) r 46 ls st h c n
theorem st_Hs_runEvent_47 (zz : Nat × Nat) (r : mx_T) (ls : mx_L) (st : List Value) (h : mx_H) (c n : Nat) : mx_G r (t_Hs_runEvent zz) 47 ls st h c n = (o_call 0 0 2 0 0 (mx_rv 8) (S_Wi_respond zz)) r (mx_G r (t_Hs_runEvent zz)) 47 ls st h c n := mx_G_eq (tm_Hs_runEvent zz) r 47 ls st h c n
theorem st_Hs_runEvent_50 (zz : Nat × Nat) (r : mx_T) (ls : mx_L) (st : List Value) (h : mx_H) (c n : Nat) : mx_G r (t_Hs_runEvent zz) 50 ls st h c n = (o_goto 61) r (mx_G r (t_Hs_runEvent zz)) 50 ls st h c n := mx_G_eq (tm_Hs_runEvent zz) r 50 ls st h c n
theorem st_Hs_runEvent_53 (zz : Nat × Nat) (r : mx_T) (ls : mx_L) (st : List Value) (h : mx_H) (c n : Nat) : mx_G r (t_Hs_runEvent zz) 53 ls st h c n = (o_aload 1 0) r (mx_G r (t_Hs_runEvent zz)) 53 ls st h c n := mx_G_eq (tm_Hs_runEvent zz) r 53 ls st h c n
theorem st_Hs_runEvent_54 (zz : Nat × Nat) (r : mx_T) (ls : mx_L) (st : List Value) (h : mx_H) (c n : Nat) : mx_G r (t_Hs_runEvent zz) 54 ls st h c n = (o_get 0 6) r (mx_G r (t_Hs_runEvent zz)) 54 ls st h c n := mx_G_eq (tm_Hs_runEvent zz) r 54 ls st h c n
theorem st_Hs_runEvent_57 (zz : Nat × Nat) (r : mx_T) (ls : mx_L) (st : List Value) (h : mx_H) (c n : Nat) : mx_G r (t_Hs_runEvent zz) 57 ls st h c n = (o_iload 1 2) r (mx_G r (t_Hs_runEvent zz)) 57 ls st h c n := mx_G_eq (tm_Hs_runEvent zz) r 57 ls st h c n
theorem st_Hs_runEvent_58 (zz : Nat × Nat) (r : mx_T) (ls : mx_L) (st : List Value) (h : mx_H) (c n : Nat) : mx_G r (t_Hs_runEvent zz) 58 ls st h c n = (o_call 0 0 2 0 0 (mx_rv 8) (S_Wi_breakOffAfter zz)) r (mx_G r (t_Hs_runEvent zz)) 58 ls st h c n := mx_G_eq (tm_Hs_runEvent zz) r 58 ls st h c n
theorem st_Hs_runEvent_61 (zz : Nat × Nat) (r : mx_T) (ls : mx_L) (st : List Value) (h : mx_H) (c n : Nat) : mx_G r (t_Hs_runEvent zz) 61 ls st h c n = (o_aload 1 1) r (mx_G r (t_Hs_runEvent zz)) 61 ls st h c n := mx_G_eq (tm_Hs_runEvent zz) r 61 ls st h c n
theorem st_Hs_runEvent_62 (zz : Nat × Nat) (r : mx_T) (ls : mx_L) (st : List Value) (h : mx_H) (c n : Nat) : mx_G r (t_Hs_runEvent zz) 62 ls st h c n = (o_aload 1 0) r (mx_G r (t_Hs_runEvent zz)) 62 ls st h c n := mx_G_eq (tm_Hs_runEvent zz) r 62 ls st h c n
theorem st_Hs_runEvent_63 (zz : Nat × Nat) (r : mx_T) (ls : mx_L) (st : List Value) (h : mx_H) (c n : Nat) : mx_G r (t_Hs_runEvent zz) 63 ls st h c n = (o_get 0 6) r (mx_G r (t_Hs_runEvent zz)) 63 ls st h c n := mx_G_eq (tm_Hs_runEvent zz) r 63 ls st h c n
theorem st_Hs_runEvent_66 (zz : Nat × Nat) (r : mx_T) (ls : mx_L) (st : List Value) (h : mx_H) (c n : Nat) : mx_G r (t_Hs_runEvent zz) 66 ls st h c n = (o_push 1 (.int 1)) r (mx_G r (t_Hs_runEvent zz)) 66 ls st h c n := mx_G_eq (tm_Hs_runEvent zz) r 66 ls st h c n
theorem st_Hs_runEvent_67 (zz : Nat × Nat) (r : mx_T) (ls : mx_L) (st : List Value) (h : mx_H) (c n : Nat) : mx_G r (t_Hs_runEvent zz) 67 ls st h c n = (o_call 0 0 2 0 0 (mx_rv 8) (S_Wi_byteAt zz)) r (mx_G r (t_Hs_runEvent zz)) 67 ls st h c n := mx_G_eq (tm_Hs_runEvent zz) r 67 ls st h c n
theorem st_Hs_runEvent_70 (zz : Nat × Nat) (r : mx_T) (ls : mx_L) (st : List Value) (h : mx_H) (c n : Nat) : mx_G r (t_Hs_runEvent zz) 70 ls st h c n = (o_call 0 0 2 0 0 (mx_rv 4) (S_Ev_memberWith zz)) r (mx_G r (t_Hs_runEvent zz)) 70 ls st h c n := mx_G_eq (tm_Hs_runEvent zz) r 70 ls st h c n
theorem st_Hs_runEvent_73 (zz : Nat × Nat) (r : mx_T) (ls : mx_L) (st : List Value) (h : mx_H) (c n : Nat) : mx_G r (t_Hs_runEvent zz) 73 ls st h c n = (o_astore 2 4) r (mx_G r (t_Hs_runEvent zz)) 73 ls st h c n := mx_G_eq (tm_Hs_runEvent zz) r 73 ls st h c n
theorem st_Hs_runEvent_75 (zz : Nat × Nat) (r : mx_T) (ls : mx_L) (st : List Value) (h : mx_H) (c n : Nat) : mx_G r (t_Hs_runEvent zz) 75 ls st h c n = (o_aload 2 4) r (mx_G r (t_Hs_runEvent zz)) 75 ls st h c n := mx_G_eq (tm_Hs_runEvent zz) r 75 ls st h c n
theorem st_Hs_runEvent_77 (zz : Nat × Nat) (r : mx_T) (ls : mx_L) (st : List Value) (h : mx_H) (c n : Nat) : mx_G r (t_Hs_runEvent zz) 77 ls st h c n = (o_ifnull 92) r (mx_G r (t_Hs_runEvent zz)) 77 ls st h c n := mx_G_eq (tm_Hs_runEvent zz) r 77 ls st h c n
theorem st_Hs_runEvent_80 (zz : Nat × Nat) (r : mx_T) (ls : mx_L) (st : List Value) (h : mx_H) (c n : Nat) : mx_G r (t_Hs_runEvent zz) 80 ls st h c n = (o_aload 1 0) r (mx_G r (t_Hs_runEvent zz)) 80 ls st h c n := mx_G_eq (tm_Hs_runEvent zz) r 80 ls st h c n
theorem st_Hs_runEvent_81 (zz : Nat × Nat) (r : mx_T) (ls : mx_L) (st : List Value) (h : mx_H) (c n : Nat) : mx_G r (t_Hs_runEvent zz) 81 ls st h c n = (o_get 0 6) r (mx_G r (t_Hs_runEvent zz)) 81 ls st h c n := mx_G_eq (tm_Hs_runEvent zz) r 81 ls st h c n
theorem st_Hs_runEvent_84 (zz : Nat × Nat) (r : mx_T) (ls : mx_L) (st : List Value) (h : mx_H) (c n : Nat) : mx_G r (t_Hs_runEvent zz) 84 ls st h c n = (o_aload 2 4) r (mx_G r (t_Hs_runEvent zz)) 84 ls st h c n := mx_G_eq (tm_Hs_runEvent zz) r 84 ls st h c n
theorem st_Hs_runEvent_86 (zz : Nat × Nat) (r : mx_T) (ls : mx_L) (st : List Value) (h : mx_H) (c n : Nat) : mx_G r (t_Hs_runEvent zz) 86 ls st h c n = (o_call 0 0 2 0 0 (mx_rv 8) (S_Wi_isValidFor zz)) r (mx_G r (t_Hs_runEvent zz)) 86 ls st h c n := mx_G_eq (tm_Hs_runEvent zz) r 86 ls st h c n
theorem st_Hs_runEvent_89 (zz : Nat × Nat) (r : mx_T) (ls : mx_L) (st : List Value) (h : mx_H) (c n : Nat) : mx_G r (t_Hs_runEvent zz) 89 ls st h c n = (o_if 105 (fun x => ¬ x = 0)) r (mx_G r (t_Hs_runEvent zz)) 89 ls st h c n := mx_G_eq (tm_Hs_runEvent zz) r 89 ls st h c n
theorem st_Hs_runEvent_92 (zz : Nat × Nat) (r : mx_T) (ls : mx_L) (st : List Value) (h : mx_H) (c n : Nat) : mx_G r (t_Hs_runEvent zz) 92 ls st h c n = (o_aload 1 0) r (mx_G r (t_Hs_runEvent zz)) 92 ls st h c n := mx_G_eq (tm_Hs_runEvent zz) r 92 ls st h c n
theorem st_Hs_runEvent_93 (zz : Nat × Nat) (r : mx_T) (ls : mx_L) (st : List Value) (h : mx_H) (c n : Nat) : mx_G r (t_Hs_runEvent zz) 93 ls st h c n = (o_get 0 5) r (mx_G r (t_Hs_runEvent zz)) 93 ls st h c n := mx_G_eq (tm_Hs_runEvent zz) r 93 ls st h c n
theorem st_Hs_runEvent_96 (zz : Nat × Nat) (r : mx_T) (ls : mx_L) (st : List Value) (h : mx_H) (c n : Nat) : mx_G r (t_Hs_runEvent zz) 96 ls st h c n = (o_aload 1 1) r (mx_G r (t_Hs_runEvent zz)) 96 ls st h c n := mx_G_eq (tm_Hs_runEvent zz) r 96 ls st h c n
theorem st_Hs_runEvent_97 (zz : Nat × Nat) (r : mx_T) (ls : mx_L) (st : List Value) (h : mx_H) (c n : Nat) : mx_G r (t_Hs_runEvent zz) 97 ls st h c n = (o_get 4 2) r (mx_G r (t_Hs_runEvent zz)) 97 ls st h c n := mx_G_eq (tm_Hs_runEvent zz) r 97 ls st h c n
theorem st_Hs_runEvent_100 (zz : Nat × Nat) (r : mx_T) (ls : mx_L) (st : List Value) (h : mx_H) (c n : Nat) : mx_G r (t_Hs_runEvent zz) 100 ls st h c n = (o_put 7 7 mx_vI) r (mx_G r (t_Hs_runEvent zz)) 100 ls st h c n := mx_G_eq (tm_Hs_runEvent zz) r 100 ls st h c n
theorem st_Hs_runEvent_103 (zz : Nat × Nat) (r : mx_T) (ls : mx_L) (st : List Value) (h : mx_H) (c n : Nat) : mx_G r (t_Hs_runEvent zz) 103 ls st h c n = (o_push 1 (.int 4)) r (mx_G r (t_Hs_runEvent zz)) 103 ls st h c n := mx_G_eq (tm_Hs_runEvent zz) r 103 ls st h c n
theorem st_Hs_runEvent_104 (zz : Nat × Nat) (r : mx_T) (ls : mx_L) (st : List Value) (h : mx_H) (c n : Nat) : mx_G r (t_Hs_runEvent zz) 104 ls st h c n = (o_iret) r (mx_G r (t_Hs_runEvent zz)) 104 ls st h c n := mx_G_eq (tm_Hs_runEvent zz) r 104 ls st h c n
theorem st_Hs_runEvent_105 (zz : Nat × Nat) (r : mx_T) (ls : mx_L) (st : List Value) (h : mx_H) (c n : Nat) : mx_G r (t_Hs_runEvent zz) 105 ls st h c n = (o_aload 1 0) r (mx_G r (t_Hs_runEvent zz)) 105 ls st h c n := mx_G_eq (tm_Hs_runEvent zz) r 105 ls st h c n
theorem st_Hs_runEvent_106 (zz : Nat × Nat) (r : mx_T) (ls : mx_L) (st : List Value) (h : mx_H) (c n : Nat) : mx_G r (t_Hs_runEvent zz) 106 ls st h c n = (o_aload 2 4) r (mx_G r (t_Hs_runEvent zz)) 106 ls st h c n := mx_G_eq (tm_Hs_runEvent zz) r 106 ls st h c n
theorem st_Hs_runEvent_108 (zz : Nat × Nat) (r : mx_T) (ls : mx_L) (st : List Value) (h : mx_H) (c n : Nat) : mx_G r (t_Hs_runEvent zz) 108 ls st h c n = (o_call 0 0 2 0 0 (mx_rv 0) (S_Hs_takeIn zz)) r (mx_G r (t_Hs_runEvent zz)) 108 ls st h c n := mx_G_eq (tm_Hs_runEvent zz) r 108 ls st h c n
theorem st_Hs_runEvent_111 (zz : Nat × Nat) (r : mx_T) (ls : mx_L) (st : List Value) (h : mx_H) (c n : Nat) : mx_G r (t_Hs_runEvent zz) 111 ls st h c n = (o_push 1 (.int 1)) r (mx_G r (t_Hs_runEvent zz)) 111 ls st h c n := mx_G_eq (tm_Hs_runEvent zz) r 111 ls st h c n
theorem st_Hs_runEvent_112 (zz : Nat × Nat) (r : mx_T) (ls : mx_L) (st : List Value) (h : mx_H) (c n : Nat) : mx_G r (t_Hs_runEvent zz) 112 ls st h c n = (o_iret) r (mx_G r (t_Hs_runEvent zz)) 112 ls st h c n := mx_G_eq (tm_Hs_runEvent zz) r 112 ls st h c n
theorem d_Hs_runSlot_0 : decode c_Hs_runSlot 0 = .ok (.aload_n 0, 1) := by decide +kernel
theorem d_Hs_runSlot_1 : decode c_Hs_runSlot 1 = .ok (.getfield 39, 3) := by decide +kernel
theorem d_Hs_runSlot_4 : decode c_Hs_runSlot 4 = .ok (.invokevirtual 237, 3) := by decide +kernel
theorem d_Hs_runSlot_7 : decode c_Hs_runSlot 7 = .ok (.aload_n 1, 1) := by decide +kernel
theorem d_Hs_runSlot_8 : decode c_Hs_runSlot 8 = .ok (.getfield 240, 3) := by decide +kernel
theorem d_Hs_runSlot_11 : decode c_Hs_runSlot 11 = .ok (.lookupswitch 63 #[(0, 25), (1, 44)], 25) := by decide +kernel
theorem d_Hs_runSlot_36 : decode c_Hs_runSlot 36 = .ok (.aload_n 0, 1) := by decide +kernel
theorem d_Hs_runSlot_37 : decode c_Hs_runSlot 37 = .ok (.aload_n 0, 1) := by decide +kernel
theorem d_Hs_runSlot_38 : decode c_Hs_runSlot 38 = .ok (.getfield 10, 3) := by decide +kernel
theorem d_Hs_runSlot_41 : decode c_Hs_runSlot 41 = .ok (.aload_n 1, 1) := by decide +kernel
theorem d_Hs_runSlot_42 : decode c_Hs_runSlot 42 = .ok (.getfield 243, 3) := by decide +kernel
theorem d_Hs_runSlot_45 : decode c_Hs_runSlot 45 = .ok (.invokevirtual 213, 3) := by decide +kernel
theorem d_Hs_runSlot_48 : decode c_Hs_runSlot 48 = .ok (.checkcast 70, 3) := by decide +kernel
theorem d_Hs_runSlot_51 : decode c_Hs_runSlot 51 = .ok (.invokevirtual 246, 3) := by decide +kernel
theorem d_Hs_runSlot_54 : decode c_Hs_runSlot 54 = .ok (.ireturn, 1) := by decide +kernel
theorem d_Hs_runSlot_55 : decode c_Hs_runSlot 55 = .ok (.aload_n 0, 1) := by decide +kernel
theorem d_Hs_runSlot_56 : decode c_Hs_runSlot 56 = .ok (.aload_n 0, 1) := by decide +kernel
theorem d_Hs_runSlot_57 : decode c_Hs_runSlot 57 = .ok (.getfield 19, 3) := by decide +kernel
theorem d_Hs_runSlot_60 : decode c_Hs_runSlot 60 = .ok (.aload_n 1, 1) := by decide +kernel
theorem d_Hs_runSlot_61 : decode c_Hs_runSlot 61 = .ok (.getfield 243, 3) := by decide +kernel
theorem d_Hs_runSlot_64 : decode c_Hs_runSlot 64 = .ok (.invokevirtual 213, 3) := by decide +kernel
theorem d_Hs_runSlot_67 : decode c_Hs_runSlot 67 = .ok (.checkcast 113, 3) := by decide +kernel
theorem d_Hs_runSlot_70 : decode c_Hs_runSlot 70 = .ok (.invokevirtual 250, 3) := by decide +kernel
theorem d_Hs_runSlot_73 : decode c_Hs_runSlot 73 = .ok (.ireturn, 1) := by decide +kernel
theorem d_Hs_runSlot_74 : decode c_Hs_runSlot 74 = .ok (.aload_n 0, 1) := by decide +kernel
theorem d_Hs_runSlot_75 : decode c_Hs_runSlot 75 = .ok (.aload_n 0, 1) := by decide +kernel
theorem d_Hs_runSlot_76 : decode c_Hs_runSlot 76 = .ok (.getfield 22, 3) := by decide +kernel
theorem d_Hs_runSlot_79 : decode c_Hs_runSlot 79 = .ok (.aload_n 1, 1) := by decide +kernel
theorem d_Hs_runSlot_80 : decode c_Hs_runSlot 80 = .ok (.getfield 243, 3) := by decide +kernel
theorem d_Hs_runSlot_83 : decode c_Hs_runSlot 83 = .ok (.invokevirtual 213, 3) := by decide +kernel
theorem d_Hs_runSlot_86 : decode c_Hs_runSlot 86 = .ok (.checkcast 135, 3) := by decide +kernel
theorem d_Hs_runSlot_89 : decode c_Hs_runSlot 89 = .ok (.invokevirtual 254, 3) := by decide +kernel
theorem d_Hs_runSlot_92 : decode c_Hs_runSlot 92 = .ok (.ireturn, 1) := by decide +kernel
def t_Hs_runSlot (zz : Nat × Nat) : List (Nat × mx_O) := [(0, o_aload 1 0),
  (1, o_get 0 6),
  (4, o_call 0 0 1 0 0 (mx_rv 8) (S_Wi_clear zz)),
  (7, o_aload 1 1),
  (8, o_get 5 0),
  (11, o_sw [(0, 36), (1, 55)] 74),
  (36, o_aload 1 0),
  (37, o_aload 1 0),
  (38, o_get 0 0),
  (41, o_aload 1 1),
  (42, o_get 5 1),
  (45, o_call 0 0 2 0 0 (mx_rv 9) (S_Al_get zz)),
  (48, o_cast 1),
  (51, o_call 0 0 2 0 0 (mx_rv 0) (S_Hs_runFrame zz)),
  (54, o_iret),
  (55, o_aload 1 0),
  (56, o_aload 1 0),
  (57, o_get 0 2),
  (60, o_aload 1 1),
  (61, o_get 5 1),
  (64, o_call 0 0 2 0 0 (mx_rv 9) (S_Al_get zz)),
  (67, o_cast 3),
  (70, o_call 0 0 2 0 0 (mx_rv 0) (S_Hs_runGroup zz)),
  (73, o_iret),
  (74, o_aload 1 0),
  (75, o_aload 1 0),
  (76, o_get 0 3),
  (79, o_aload 1 1),
  (80, o_get 5 1),
  (83, o_call 0 0 2 0 0 (mx_rv 9) (S_Al_get zz)),
  (86, o_cast 4),
  (89, o_call 0 0 2 0 0 (mx_rv 0) (S_Hs_runEvent zz)),
  (92, o_iret)]
set_option maxRecDepth 100000 in
theorem tm_Hs_runSlot (zz : Nat × Nat) : mx_All (fun _ o => mx_Mono o) (t_Hs_runSlot zz) := by
  refine mx_all_cons (mo_st) ?_
  refine mx_all_cons (mo_st) ?_
  refine mx_all_cons (mo_call (sm_Wi_clear zz)) ?_
  refine mx_all_cons (mo_st) ?_
  refine mx_all_cons (mo_st) ?_
  refine mx_all_cons (mo_sw) ?_
  refine mx_all_cons (mo_st) ?_
  refine mx_all_cons (mo_st) ?_
  refine mx_all_cons (mo_st) ?_
  refine mx_all_cons (mo_st) ?_
  refine mx_all_cons (mo_st) ?_
  refine mx_all_cons (mo_call (sm_Al_get zz)) ?_
  refine mx_all_cons (mo_sc) ?_
  refine mx_all_cons (mo_call (sm_Hs_runFrame zz)) ?_
  refine mx_all_cons (mo_ret) ?_
  refine mx_all_cons (mo_st) ?_
  refine mx_all_cons (mo_st) ?_
  refine mx_all_cons (mo_st) ?_
  refine mx_all_cons (mo_st) ?_
  refine mx_all_cons (mo_st) ?_
  refine mx_all_cons (mo_call (sm_Al_get zz)) ?_
  refine mx_all_cons (mo_sc) ?_
  refine mx_all_cons (mo_call (sm_Hs_runGroup zz)) ?_
  refine mx_all_cons (mo_ret) ?_
  refine mx_all_cons (mo_st) ?_
  refine mx_all_cons (mo_st) ?_
  refine mx_all_cons (mo_st) ?_
  refine mx_all_cons (mo_st) ?_
  refine mx_all_cons (mo_st) ?_
  refine mx_all_cons (mo_call (sm_Al_get zz)) ?_
  refine mx_all_cons (mo_sc) ?_
  refine mx_all_cons (mo_call (sm_Hs_runEvent zz)) ?_
  refine mx_all_cons (mo_ret) ?_
  exact mx_all_nil
def S_Hs_runSlot (zz : Nat × Nat) : mx_Sp := mx_S 2 0 0 (t_Hs_runSlot zz)
theorem sm_Hs_runSlot (zz : Nat × Nat) : mx_SMono (S_Hs_runSlot zz) := mx_S_mono (tm_Hs_runSlot zz)
abbrev rm_Hs_runSlot : Room := { frames := 6, cells := 0, slots := 0, locals := 132 }
set_option maxHeartbeats 4000000 in
set_option maxRecDepth 100000 in
theorem m_Hs_runSlot (l : Launch) (zz : Nat × Nat) : mx_Met l y_Hs_runSlot (wsOf y_Hs_runSlot c_Hs_runSlot 2 (some .int)) rm_Hs_runSlot wcl (mx_Z zz) 0 0 (S_Hs_runSlot zz) := by
  refine mx_met (cc := c_Hs_runSlot) (ret := (some .int)) (by decide) rfl ?_
  intro p e s m args below meth c D A Post X hz hr hlk hnm
  have hm : ∀ w ∈ mw, w.before args s = true := fun w h => X.1.2.2.2.2 w (List.mem_cons_of_mem _ h)
  refine mx_all_cons (ok_aload (fun hl kk => lv_aload_n X.1.1 X.1.2.1 d_Hs_runSlot_0 rfl hl kk) (fun hl kk => lv_aload_nN X.1.1 X.1.2.1 d_Hs_runSlot_0 rfl hl kk)) ?_
  refine mx_all_cons (ok_get (C := "HeaderSchedule") (T := T_Hs) (N := 11) X (mw_up in_Hs) rfl 6 (by decide) (hm _ w164) (fun _ h9 => h9) d_Hs_runSlot_1) ?_
  refine mx_all_cons (ok_callV (C := "HeaderSchedule$Wire") (T := T_Wi) (N := 4) X (mx_Zok_Z zz) hz ⟨(Nat.le_of_ble_eq_true rfl), (Nat.le_of_ble_eq_true rfl)⟩ (m_Wi_clear l zz) ⟨mx_cwB 0 hm w571 w568 w39 rfl rfl (by decide +kernel) ⟨(Nat.le_of_ble_eq_true rfl), (Nat.le_of_ble_eq_true rfl)⟩, (hm _ w569), hm _ w570⟩ rfl d_Hs_runSlot_4) ?_
  refine mx_all_cons (ok_aload (fun hl kk => lv_aload_n X.1.1 X.1.2.1 d_Hs_runSlot_7 rfl hl kk) (fun hl kk => lv_aload_nN X.1.1 X.1.2.1 d_Hs_runSlot_7 rfl hl kk)) ?_
  refine mx_all_cons (ok_get (C := "HeaderSchedule$Entry") (T := T_En) (N := 3) X (mw_up in_En) rfl 0 (by decide) (hm _ w468) (fun _ h9 => h9) d_Hs_runSlot_8) ?_
  refine mx_all_cons (ok_lookup X d_Hs_runSlot_11 (by decide) (fun x => mx_lks (by decide) _ _ (by decide))) ?_
  refine mx_all_cons (ok_aload (fun hl kk => lv_aload_n X.1.1 X.1.2.1 d_Hs_runSlot_36 rfl hl kk) (fun hl kk => lv_aload_nN X.1.1 X.1.2.1 d_Hs_runSlot_36 rfl hl kk)) ?_
  refine mx_all_cons (ok_aload (fun hl kk => lv_aload_n X.1.1 X.1.2.1 d_Hs_runSlot_37 rfl hl kk) (fun hl kk => lv_aload_nN X.1.1 X.1.2.1 d_Hs_runSlot_37 rfl hl kk)) ?_
  refine mx_all_cons (ok_get (C := "HeaderSchedule") (T := T_Hs) (N := 11) X (mw_up in_Hs) rfl 0 (by decide) (hm _ w158) (fun _ h9 => h9) d_Hs_runSlot_38) ?_
  refine mx_all_cons (ok_aload (fun hl kk => lv_aload_n X.1.1 X.1.2.1 d_Hs_runSlot_41 rfl hl kk) (fun hl kk => lv_aload_nN X.1.1 X.1.2.1 d_Hs_runSlot_41 rfl hl kk)) ?_
  refine mx_all_cons (ok_get (C := "HeaderSchedule$Entry") (T := T_En) (N := 3) X (mw_up in_En) rfl 1 (by decide) (hm _ w471) (fun _ h9 => h9) d_Hs_runSlot_42) ?_
  refine mx_all_cons (ok_callV (C := "java/util/ArrayList") (T := T_Al) (N := 3) X (mx_Zok_Z zz) hz ⟨(Nat.le_of_ble_eq_true rfl), (Nat.le_of_ble_eq_true rfl)⟩ (m_Al_get l zz) ⟨mx_cwB 1 hm w326 w323 w36 rfl rfl (by decide +kernel) ⟨(Nat.le_of_ble_eq_true rfl), (Nat.le_of_ble_eq_true rfl)⟩, (hm _ w324), hm _ w325⟩ rfl d_Hs_runSlot_45) ?_
  refine mx_all_cons (ok_cast (C := "HeaderSchedule$Frame") (T := T_Fr) (N := 8) X rfl (hm _ w207) d_Hs_runSlot_48) ?_
  refine mx_all_cons (ok_callV (C := "HeaderSchedule") (T := T_Hs) (N := 11) X (mx_Zok_Z zz) hz ⟨(Nat.le_of_ble_eq_true rfl), (Nat.le_of_ble_eq_true rfl)⟩ (m_Hs_runFrame l zz) ⟨mx_cwB 1 hm w575 w572 w33 rfl rfl (by decide +kernel) ⟨(Nat.le_of_ble_eq_true rfl), (Nat.le_of_ble_eq_true rfl)⟩, (hm _ w574), hm _ w12⟩ rfl d_Hs_runSlot_51) ?_
  refine mx_all_cons (ok_iret X hr hlk d_Hs_runSlot_54) ?_
  refine mx_all_cons (ok_aload (fun hl kk => lv_aload_n X.1.1 X.1.2.1 d_Hs_runSlot_55 rfl hl kk) (fun hl kk => lv_aload_nN X.1.1 X.1.2.1 d_Hs_runSlot_55 rfl hl kk)) ?_
  refine mx_all_cons (ok_aload (fun hl kk => lv_aload_n X.1.1 X.1.2.1 d_Hs_runSlot_56 rfl hl kk) (fun hl kk => lv_aload_nN X.1.1 X.1.2.1 d_Hs_runSlot_56 rfl hl kk)) ?_
  refine mx_all_cons (ok_get (C := "HeaderSchedule") (T := T_Hs) (N := 11) X (mw_up in_Hs) rfl 2 (by decide) (hm _ w160) (fun _ h9 => h9) d_Hs_runSlot_57) ?_
  refine mx_all_cons (ok_aload (fun hl kk => lv_aload_n X.1.1 X.1.2.1 d_Hs_runSlot_60 rfl hl kk) (fun hl kk => lv_aload_nN X.1.1 X.1.2.1 d_Hs_runSlot_60 rfl hl kk)) ?_
  refine mx_all_cons (ok_get (C := "HeaderSchedule$Entry") (T := T_En) (N := 3) X (mw_up in_En) rfl 1 (by decide) (hm _ w471) (fun _ h9 => h9) d_Hs_runSlot_61) ?_
  refine mx_all_cons (ok_callV (C := "java/util/ArrayList") (T := T_Al) (N := 3) X (mx_Zok_Z zz) hz ⟨(Nat.le_of_ble_eq_true rfl), (Nat.le_of_ble_eq_true rfl)⟩ (m_Al_get l zz) ⟨mx_cwB 1 hm w326 w323 w36 rfl rfl (by decide +kernel) ⟨(Nat.le_of_ble_eq_true rfl), (Nat.le_of_ble_eq_true rfl)⟩, (hm _ w324), hm _ w325⟩ rfl d_Hs_runSlot_64) ?_
  refine mx_all_cons (ok_cast (C := "HeaderSchedule$Group") (T := T_Gr) (N := 1) X rfl (hm _ w388) d_Hs_runSlot_67) ?_
  refine mx_all_cons (ok_callV (C := "HeaderSchedule") (T := T_Hs) (N := 11) X (mx_Zok_Z zz) hz ⟨(Nat.le_of_ble_eq_true rfl), (Nat.le_of_ble_eq_true rfl)⟩ (m_Hs_runGroup l zz) ⟨mx_cwB 1 hm w617 w614 w33 rfl rfl (by decide +kernel) ⟨(Nat.le_of_ble_eq_true rfl), (Nat.le_of_ble_eq_true rfl)⟩, (hm _ w616), hm _ w14⟩ rfl d_Hs_runSlot_70) ?_
  refine mx_all_cons (ok_iret X hr hlk d_Hs_runSlot_73) ?_
  refine mx_all_cons (ok_aload (fun hl kk => lv_aload_n X.1.1 X.1.2.1 d_Hs_runSlot_74 rfl hl kk) (fun hl kk => lv_aload_nN X.1.1 X.1.2.1 d_Hs_runSlot_74 rfl hl kk)) ?_
  refine mx_all_cons (ok_aload (fun hl kk => lv_aload_n X.1.1 X.1.2.1 d_Hs_runSlot_75 rfl hl kk) (fun hl kk => lv_aload_nN X.1.1 X.1.2.1 d_Hs_runSlot_75 rfl hl kk)) ?_
  refine mx_all_cons (ok_get (C := "HeaderSchedule") (T := T_Hs) (N := 11) X (mw_up in_Hs) rfl 3 (by decide) (hm _ w161) (fun _ h9 => h9) d_Hs_runSlot_76) ?_
  refine mx_all_cons (ok_aload (fun hl kk => lv_aload_n X.1.1 X.1.2.1 d_Hs_runSlot_79 rfl hl kk) (fun hl kk => lv_aload_nN X.1.1 X.1.2.1 d_Hs_runSlot_79 rfl hl kk)) ?_
  refine mx_all_cons (ok_get (C := "HeaderSchedule$Entry") (T := T_En) (N := 3) X (mw_up in_En) rfl 1 (by decide) (hm _ w471) (fun _ h9 => h9) d_Hs_runSlot_80) ?_
  refine mx_all_cons (ok_callV (C := "java/util/ArrayList") (T := T_Al) (N := 3) X (mx_Zok_Z zz) hz ⟨(Nat.le_of_ble_eq_true rfl), (Nat.le_of_ble_eq_true rfl)⟩ (m_Al_get l zz) ⟨mx_cwB 1 hm w326 w323 w36 rfl rfl (by decide +kernel) ⟨(Nat.le_of_ble_eq_true rfl), (Nat.le_of_ble_eq_true rfl)⟩, (hm _ w324), hm _ w325⟩ rfl d_Hs_runSlot_83) ?_
  refine mx_all_cons (ok_cast (C := "HeaderSchedule$Event") (T := T_Ev) (N := 3) X rfl (hm _ w428) d_Hs_runSlot_86) ?_
  refine mx_all_cons (ok_callV (C := "HeaderSchedule") (T := T_Hs) (N := 11) X (mx_Zok_Z zz) hz ⟨(Nat.le_of_ble_eq_true rfl), (Nat.le_of_ble_eq_true rfl)⟩ (m_Hs_runEvent l zz) ⟨mx_cwB 1 hm w625 w622 w33 rfl rfl (by decide +kernel) ⟨(Nat.le_of_ble_eq_true rfl), (Nat.le_of_ble_eq_true rfl)⟩, (hm _ w624), hm _ w15⟩ rfl d_Hs_runSlot_89) ?_
  refine mx_all_cons (ok_iret X hr hlk d_Hs_runSlot_92) ?_
  exact mx_all_nil
theorem st_Hs_runSlot_0 (zz : Nat × Nat) (r : mx_T) (ls : mx_L) (st : List Value) (h : mx_H) (c n : Nat) : mx_G r (t_Hs_runSlot zz) 0 ls st h c n = (o_aload 1 0) r (mx_G r (t_Hs_runSlot zz)) 0 ls st h c n := mx_G_eq (tm_Hs_runSlot zz) r 0 ls st h c n
theorem st_Hs_runSlot_1 (zz : Nat × Nat) (r : mx_T) (ls : mx_L) (st : List Value) (h : mx_H) (c n : Nat) : mx_G r (t_Hs_runSlot zz) 1 ls st h c n = (o_get 0 6) r (mx_G r (t_Hs_runSlot zz)) 1 ls st h c n := mx_G_eq (tm_Hs_runSlot zz) r 1 ls st h c n
theorem st_Hs_runSlot_4 (zz : Nat × Nat) (r : mx_T) (ls : mx_L) (st : List Value) (h : mx_H) (c n : Nat) : mx_G r (t_Hs_runSlot zz) 4 ls st h c n = (o_call 0 0 1 0 0 (mx_rv 8) (S_Wi_clear zz)) r (mx_G r (t_Hs_runSlot zz)) 4 ls st h c n := mx_G_eq (tm_Hs_runSlot zz) r 4 ls st h c n
theorem st_Hs_runSlot_7 (zz : Nat × Nat) (r : mx_T) (ls : mx_L) (st : List Value) (h : mx_H) (c n : Nat) : mx_G r (t_Hs_runSlot zz) 7 ls st h c n = (o_aload 1 1) r (mx_G r (t_Hs_runSlot zz)) 7 ls st h c n := mx_G_eq (tm_Hs_runSlot zz) r 7 ls st h c n
theorem st_Hs_runSlot_8 (zz : Nat × Nat) (r : mx_T) (ls : mx_L) (st : List Value) (h : mx_H) (c n : Nat) : mx_G r (t_Hs_runSlot zz) 8 ls st h c n = (o_get 5 0) r (mx_G r (t_Hs_runSlot zz)) 8 ls st h c n := mx_G_eq (tm_Hs_runSlot zz) r 8 ls st h c n
theorem st_Hs_runSlot_11 (zz : Nat × Nat) (r : mx_T) (ls : mx_L) (st : List Value) (h : mx_H) (c n : Nat) : mx_G r (t_Hs_runSlot zz) 11 ls st h c n = (o_sw [(0, 36), (1, 55)] 74) r (mx_G r (t_Hs_runSlot zz)) 11 ls st h c n := mx_G_eq (tm_Hs_runSlot zz) r 11 ls st h c n
theorem st_Hs_runSlot_36 (zz : Nat × Nat) (r : mx_T) (ls : mx_L) (st : List Value) (h : mx_H) (c n : Nat) : mx_G r (t_Hs_runSlot zz) 36 ls st h c n = (o_aload 1 0) r (mx_G r (t_Hs_runSlot zz)) 36 ls st h c n := mx_G_eq (tm_Hs_runSlot zz) r 36 ls st h c n
theorem st_Hs_runSlot_37 (zz : Nat × Nat) (r : mx_T) (ls : mx_L) (st : List Value) (h : mx_H) (c n : Nat) : mx_G r (t_Hs_runSlot zz) 37 ls st h c n = (o_aload 1 0) r (mx_G r (t_Hs_runSlot zz)) 37 ls st h c n := mx_G_eq (tm_Hs_runSlot zz) r 37 ls st h c n
theorem st_Hs_runSlot_38 (zz : Nat × Nat) (r : mx_T) (ls : mx_L) (st : List Value) (h : mx_H) (c n : Nat) : mx_G r (t_Hs_runSlot zz) 38 ls st h c n = (o_get 0 0) r (mx_G r (t_Hs_runSlot zz)) 38 ls st h c n := mx_G_eq (tm_Hs_runSlot zz) r 38 ls st h c n
theorem st_Hs_runSlot_41 (zz : Nat × Nat) (r : mx_T) (ls : mx_L) (st : List Value) (h : mx_H) (c n : Nat) : mx_G r (t_Hs_runSlot zz) 41 ls st h c n = (o_aload 1 1) r (mx_G r (t_Hs_runSlot zz)) 41 ls st h c n := mx_G_eq (tm_Hs_runSlot zz) r 41 ls st h c n
theorem st_Hs_runSlot_42 (zz : Nat × Nat) (r : mx_T) (ls : mx_L) (st : List Value) (h : mx_H) (c n : Nat) : mx_G r (t_Hs_runSlot zz) 42 ls st h c n = (o_get 5 1) r (mx_G r (t_Hs_runSlot zz)) 42 ls st h c n := mx_G_eq (tm_Hs_runSlot zz) r 42 ls st h c n
theorem st_Hs_runSlot_45 (zz : Nat × Nat) (r : mx_T) (ls : mx_L) (st : List Value) (h : mx_H) (c n : Nat) : mx_G r (t_Hs_runSlot zz) 45 ls st h c n = (o_call 0 0 2 0 0 (mx_rv 9) (S_Al_get zz)) r (mx_G r (t_Hs_runSlot zz)) 45 ls st h c n := mx_G_eq (tm_Hs_runSlot zz) r 45 ls st h c n
theorem st_Hs_runSlot_48 (zz : Nat × Nat) (r : mx_T) (ls : mx_L) (st : List Value) (h : mx_H) (c n : Nat) : mx_G r (t_Hs_runSlot zz) 48 ls st h c n = (o_cast 1) r (mx_G r (t_Hs_runSlot zz)) 48 ls st h c n := mx_G_eq (tm_Hs_runSlot zz) r 48 ls st h c n
theorem st_Hs_runSlot_51 (zz : Nat × Nat) (r : mx_T) (ls : mx_L) (st : List Value) (h : mx_H) (c n : Nat) : mx_G r (t_Hs_runSlot zz) 51 ls st h c n = (o_call 0 0 2 0 0 (mx_rv 0) (S_Hs_runFrame zz)) r (mx_G r (t_Hs_runSlot zz)) 51 ls st h c n := mx_G_eq (tm_Hs_runSlot zz) r 51 ls st h c n
theorem st_Hs_runSlot_54 (zz : Nat × Nat) (r : mx_T) (ls : mx_L) (st : List Value) (h : mx_H) (c n : Nat) : mx_G r (t_Hs_runSlot zz) 54 ls st h c n = (o_iret) r (mx_G r (t_Hs_runSlot zz)) 54 ls st h c n := mx_G_eq (tm_Hs_runSlot zz) r 54 ls st h c n
theorem st_Hs_runSlot_55 (zz : Nat × Nat) (r : mx_T) (ls : mx_L) (st : List Value) (h : mx_H) (c n : Nat) : mx_G r (t_Hs_runSlot zz) 55 ls st h c n = (o_aload 1 0) r (mx_G r (t_Hs_runSlot zz)) 55 ls st h c n := mx_G_eq (tm_Hs_runSlot zz) r 55 ls st h c n
theorem st_Hs_runSlot_56 (zz : Nat × Nat) (r : mx_T) (ls : mx_L) (st : List Value) (h : mx_H) (c n : Nat) : mx_G r (t_Hs_runSlot zz) 56 ls st h c n = (o_aload 1 0) r (mx_G r (t_Hs_runSlot zz)) 56 ls st h c n := mx_G_eq (tm_Hs_runSlot zz) r 56 ls st h c n
theorem st_Hs_runSlot_57 (zz : Nat × Nat) (r : mx_T) (ls : mx_L) (st : List Value) (h : mx_H) (c n : Nat) : mx_G r (t_Hs_runSlot zz) 57 ls st h c n = (o_get 0 2) r (mx_G r (t_Hs_runSlot zz)) 57 ls st h c n := mx_G_eq (tm_Hs_runSlot zz) r 57 ls st h c n
theorem st_Hs_runSlot_60 (zz : Nat × Nat) (r : mx_T) (ls : mx_L) (st : List Value) (h : mx_H) (c n : Nat) : mx_G r (t_Hs_runSlot zz) 60 ls st h c n = (o_aload 1 1) r (mx_G r (t_Hs_runSlot zz)) 60 ls st h c n := mx_G_eq (tm_Hs_runSlot zz) r 60 ls st h c n
theorem st_Hs_runSlot_61 (zz : Nat × Nat) (r : mx_T) (ls : mx_L) (st : List Value) (h : mx_H) (c n : Nat) : mx_G r (t_Hs_runSlot zz) 61 ls st h c n = (o_get 5 1) r (mx_G r (t_Hs_runSlot zz)) 61 ls st h c n := mx_G_eq (tm_Hs_runSlot zz) r 61 ls st h c n
theorem st_Hs_runSlot_64 (zz : Nat × Nat) (r : mx_T) (ls : mx_L) (st : List Value) (h : mx_H) (c n : Nat) : mx_G r (t_Hs_runSlot zz) 64 ls st h c n = (o_call 0 0 2 0 0 (mx_rv 9) (S_Al_get zz)) r (mx_G r (t_Hs_runSlot zz)) 64 ls st h c n := mx_G_eq (tm_Hs_runSlot zz) r 64 ls st h c n
theorem st_Hs_runSlot_67 (zz : Nat × Nat) (r : mx_T) (ls : mx_L) (st : List Value) (h : mx_H) (c n : Nat) : mx_G r (t_Hs_runSlot zz) 67 ls st h c n = (o_cast 3) r (mx_G r (t_Hs_runSlot zz)) 67 ls st h c n := mx_G_eq (tm_Hs_runSlot zz) r 67 ls st h c n
theorem st_Hs_runSlot_70 (zz : Nat × Nat) (r : mx_T) (ls : mx_L) (st : List Value) (h : mx_H) (c n : Nat) : mx_G r (t_Hs_runSlot zz) 70 ls st h c n = (o_call 0 0 2 0 0 (mx_rv 0) (S_Hs_runGroup zz)) r (mx_G r (t_Hs_runSlot zz)) 70 ls st h c n := mx_G_eq (tm_Hs_runSlot zz) r 70 ls st h c n
theorem st_Hs_runSlot_73 (zz : Nat × Nat) (r : mx_T) (ls : mx_L) (st : List Value) (h : mx_H) (c n : Nat) : mx_G r (t_Hs_runSlot zz) 73 ls st h c n = (o_iret) r (mx_G r (t_Hs_runSlot zz)) 73 ls st h c n := mx_G_eq (tm_Hs_runSlot zz) r 73 ls st h c n
theorem st_Hs_runSlot_74 (zz : Nat × Nat) (r : mx_T) (ls : mx_L) (st : List Value) (h : mx_H) (c n : Nat) : mx_G r (t_Hs_runSlot zz) 74 ls st h c n = (o_aload 1 0) r (mx_G r (t_Hs_runSlot zz)) 74 ls st h c n := mx_G_eq (tm_Hs_runSlot zz) r 74 ls st h c n
theorem st_Hs_runSlot_75 (zz : Nat × Nat) (r : mx_T) (ls : mx_L) (st : List Value) (h : mx_H) (c n : Nat) : mx_G r (t_Hs_runSlot zz) 75 ls st h c n = (o_aload 1 0) r (mx_G r (t_Hs_runSlot zz)) 75 ls st h c n := mx_G_eq (tm_Hs_runSlot zz) r 75 ls st h c n
theorem st_Hs_runSlot_76 (zz : Nat × Nat) (r : mx_T) (ls : mx_L) (st : List Value) (h : mx_H) (c n : Nat) : mx_G r (t_Hs_runSlot zz) 76 ls st h c n = (o_get 0 3) r (mx_G r (t_Hs_runSlot zz)) 76 ls st h c n := mx_G_eq (tm_Hs_runSlot zz) r 76 ls st h c n
theorem st_Hs_runSlot_79 (zz : Nat × Nat) (r : mx_T) (ls : mx_L) (st : List Value) (h : mx_H) (c n : Nat) : mx_G r (t_Hs_runSlot zz) 79 ls st h c n = (o_aload 1 1) r (mx_G r (t_Hs_runSlot zz)) 79 ls st h c n := mx_G_eq (tm_Hs_runSlot zz) r 79 ls st h c n
theorem st_Hs_runSlot_80 (zz : Nat × Nat) (r : mx_T) (ls : mx_L) (st : List Value) (h : mx_H) (c n : Nat) : mx_G r (t_Hs_runSlot zz) 80 ls st h c n = (o_get 5 1) r (mx_G r (t_Hs_runSlot zz)) 80 ls st h c n := mx_G_eq (tm_Hs_runSlot zz) r 80 ls st h c n
theorem st_Hs_runSlot_83 (zz : Nat × Nat) (r : mx_T) (ls : mx_L) (st : List Value) (h : mx_H) (c n : Nat) : mx_G r (t_Hs_runSlot zz) 83 ls st h c n = (o_call 0 0 2 0 0 (mx_rv 9) (S_Al_get zz)) r (mx_G r (t_Hs_runSlot zz)) 83 ls st h c n := mx_G_eq (tm_Hs_runSlot zz) r 83 ls st h c n
theorem st_Hs_runSlot_86 (zz : Nat × Nat) (r : mx_T) (ls : mx_L) (st : List Value) (h : mx_H) (c n : Nat) : mx_G r (t_Hs_runSlot zz) 86 ls st h c n = (o_cast 4) r (mx_G r (t_Hs_runSlot zz)) 86 ls st h c n := mx_G_eq (tm_Hs_runSlot zz) r 86 ls st h c n
theorem st_Hs_runSlot_89 (zz : Nat × Nat) (r : mx_T) (ls : mx_L) (st : List Value) (h : mx_H) (c n : Nat) : mx_G r (t_Hs_runSlot zz) 89 ls st h c n = (o_call 0 0 2 0 0 (mx_rv 0) (S_Hs_runEvent zz)) r (mx_G r (t_Hs_runSlot zz)) 89 ls st h c n := mx_G_eq (tm_Hs_runSlot zz) r 89 ls st h c n
theorem st_Hs_runSlot_92 (zz : Nat × Nat) (r : mx_T) (ls : mx_L) (st : List Value) (h : mx_H) (c n : Nat) : mx_G r (t_Hs_runSlot zz) 92 ls st h c n = (o_iret) r (mx_G r (t_Hs_runSlot zz)) 92 ls st h c n := mx_G_eq (tm_Hs_runSlot zz) r 92 ls st h c n
theorem d_Hs_tick_0 : decode c_Hs_tick 0 = .ok (.aload_n 0, 1) := by decide +kernel
theorem d_Hs_tick_1 : decode c_Hs_tick 1 = .ok (.getfield 47, 3) := by decide +kernel
theorem d_Hs_tick_4 : decode c_Hs_tick 4 = .ok (.ifCond .eq 10, 3) := by decide +kernel
theorem d_Hs_tick_7 : decode c_Hs_tick 7 = .ok (.aload_n 0, 1) := by decide +kernel
theorem d_Hs_tick_8 : decode c_Hs_tick 8 = .ok (.getfield 51, 3) := by decide +kernel
theorem d_Hs_tick_11 : decode c_Hs_tick 11 = .ok (.ifCond .eq 5, 3) := by decide +kernel
theorem d_Hs_tick_14 : decode c_Hs_tick 14 = .ok (.iconst (-1), 1) := by decide +kernel
theorem d_Hs_tick_15 : decode c_Hs_tick 15 = .ok (.ireturn, 1) := by decide +kernel
theorem d_Hs_tick_16 : decode c_Hs_tick 16 = .ok (.aload_n 0, 1) := by decide +kernel
theorem d_Hs_tick_17 : decode c_Hs_tick 17 = .ok (.getfield 54, 3) := by decide +kernel
theorem d_Hs_tick_20 : decode c_Hs_tick 20 = .ok (.ifCond .le 15, 3) := by decide +kernel
theorem d_Hs_tick_23 : decode c_Hs_tick 23 = .ok (.aload_n 0, 1) := by decide +kernel
theorem d_Hs_tick_24 : decode c_Hs_tick 24 = .ok (.dup, 1) := by decide +kernel
theorem d_Hs_tick_25 : decode c_Hs_tick 25 = .ok (.getfield 54, 3) := by decide +kernel
theorem d_Hs_tick_28 : decode c_Hs_tick 28 = .ok (.iconst 1, 1) := by decide +kernel
theorem d_Hs_tick_29 : decode c_Hs_tick 29 = .ok (.isub, 1) := by decide +kernel
theorem d_Hs_tick_30 : decode c_Hs_tick 30 = .ok (.putfield 54, 3) := by decide +kernel
theorem d_Hs_tick_33 : decode c_Hs_tick 33 = .ok (.iconst 0, 1) := by decide +kernel
theorem d_Hs_tick_34 : decode c_Hs_tick 34 = .ok (.ireturn, 1) := by decide +kernel
theorem d_Hs_tick_35 : decode c_Hs_tick 35 = .ok (.aload_n 0, 1) := by decide +kernel
theorem d_Hs_tick_36 : decode c_Hs_tick 36 = .ok (.getfield 32, 3) := by decide +kernel
theorem d_Hs_tick_39 : decode c_Hs_tick 39 = .ok (.invokevirtual 193, 3) := by decide +kernel
theorem d_Hs_tick_42 : decode c_Hs_tick 42 = .ok (.aload_n 0, 1) := by decide +kernel
theorem d_Hs_tick_43 : decode c_Hs_tick 43 = .ok (.getfield 32, 3) := by decide +kernel
theorem d_Hs_tick_46 : decode c_Hs_tick 46 = .ok (.invokevirtual 196, 3) := by decide +kernel
theorem d_Hs_tick_49 : decode c_Hs_tick 49 = .ok (.astore_n 1, 1) := by decide +kernel
theorem d_Hs_tick_50 : decode c_Hs_tick 50 = .ok (.aload_n 0, 1) := by decide +kernel
theorem d_Hs_tick_51 : decode c_Hs_tick 51 = .ok (.aload_n 1, 1) := by decide +kernel
theorem d_Hs_tick_52 : decode c_Hs_tick 52 = .ok (.getfield 200, 3) := by decide +kernel
theorem d_Hs_tick_55 : decode c_Hs_tick 55 = .ok (.iconst 1, 1) := by decide +kernel
theorem d_Hs_tick_56 : decode c_Hs_tick 56 = .ok (.isub, 1) := by decide +kernel
theorem d_Hs_tick_57 : decode c_Hs_tick 57 = .ok (.putfield 54, 3) := by decide +kernel
theorem d_Hs_tick_60 : decode c_Hs_tick 60 = .ok (.aload_n 0, 1) := by decide +kernel
theorem d_Hs_tick_61 : decode c_Hs_tick 61 = .ok (.aload_n 1, 1) := by decide +kernel
theorem d_Hs_tick_62 : decode c_Hs_tick 62 = .ok (.invokevirtual 203, 3) := by decide +kernel
theorem d_Hs_tick_65 : decode c_Hs_tick 65 = .ok (.istore_n 2, 1) := by decide +kernel
theorem d_Hs_tick_66 : decode c_Hs_tick 66 = .ok (.aload_n 0, 1) := by decide +kernel
theorem d_Hs_tick_67 : decode c_Hs_tick 67 = .ok (.getfield 43, 3) := by decide +kernel
theorem d_Hs_tick_70 : decode c_Hs_tick 70 = .ok (.iload_n 2, 1) := by decide +kernel
theorem d_Hs_tick_71 : decode c_Hs_tick 71 = .ok (.dup2, 1) := by decide +kernel
theorem d_Hs_tick_72 : decode c_Hs_tick 72 = .ok (.iaload, 1) := by decide +kernel
theorem d_Hs_tick_73 : decode c_Hs_tick 73 = .ok (.iconst 1, 1) := by decide +kernel
theorem d_Hs_tick_74 : decode c_Hs_tick 74 = .ok (.iadd, 1) := by decide +kernel
theorem d_Hs_tick_75 : decode c_Hs_tick 75 = .ok (.iastore, 1) := by decide +kernel
theorem d_Hs_tick_76 : decode c_Hs_tick 76 = .ok (.iload_n 2, 1) := by decide +kernel
theorem d_Hs_tick_77 : decode c_Hs_tick 77 = .ok (.ireturn, 1) := by decide +kernel
def t_Hs_tick (zz : Nat × Nat) : List (Nat × mx_O) := [(0, o_aload 1 0),
  (1, o_get 0 8),
  (4, o_if 14 (fun x => x = 0)),
  (7, o_aload 1 0),
  (8, o_get 0 9),
  (11, o_if 16 (fun x => x = 0)),
  (14, o_push 1 (.int (-1))),
  (15, o_iret),
  (16, o_aload 1 0),
  (17, o_get 0 10),
  (20, o_if 35 (fun x => x ≤ 0)),
  (23, o_aload 1 0),
  (24, o_dup),
  (25, o_get 0 10),
  (28, o_push 1 (.int 1)),
  (29, o_ii (fun x y => x - y)),
  (30, o_put 0 10 mx_vI),
  (33, o_push 1 (.int 0)),
  (34, o_iret),
  (35, o_aload 1 0),
  (36, o_get 0 5),
  (39, o_call 0 0 1 0 0 (mx_rv 7) (S_Sc_passBoundary zz)),
  (42, o_aload 1 0),
  (43, o_get 0 5),
  (46, o_call 0 0 1 0 0 (mx_rv 7) (S_Sc_takeNext zz)),
  (49, o_astore 1 1),
  (50, o_aload 1 0),
  (51, o_aload 1 1),
  (52, o_get 5 2),
  (55, o_push 1 (.int 1)),
  (56, o_ii (fun x y => x - y)),
  (57, o_put 0 10 mx_vI),
  (60, o_aload 1 0),
  (61, o_aload 1 1),
  (62, o_call 0 0 2 0 0 (mx_rv 0) (S_Hs_runSlot zz)),
  (65, o_istore 1 2),
  (66, o_aload 1 0),
  (67, o_get 0 7),
  (70, o_iload 1 2),
  (71, o_dup2),
  (72, o_iald .int),
  (73, o_push 1 (.int 1)),
  (74, o_ii (fun x y => x + y)),
  (75, o_iast .int (fun x => x)),
  (76, o_iload 1 2),
  (77, o_iret)]
set_option maxRecDepth 100000 in
theorem tm_Hs_tick (zz : Nat × Nat) : mx_All (fun _ o => mx_Mono o) (t_Hs_tick zz) := by
  refine mx_all_cons (mo_st) ?_
  refine mx_all_cons (mo_st) ?_
  refine mx_all_cons (mo_br) ?_
  refine mx_all_cons (mo_st) ?_
  refine mx_all_cons (mo_st) ?_
  refine mx_all_cons (mo_br) ?_
  refine mx_all_cons (mo_st) ?_
  refine mx_all_cons (mo_ret) ?_
  refine mx_all_cons (mo_st) ?_
  refine mx_all_cons (mo_st) ?_
  refine mx_all_cons (mo_br) ?_
  refine mx_all_cons (mo_st) ?_
  refine mx_all_cons (mo_st) ?_
  refine mx_all_cons (mo_st) ?_
  refine mx_all_cons (mo_st) ?_
  refine mx_all_cons (mo_st) ?_
  refine mx_all_cons (mo_sc) ?_
  refine mx_all_cons (mo_st) ?_
  refine mx_all_cons (mo_ret) ?_
  refine mx_all_cons (mo_st) ?_
  refine mx_all_cons (mo_st) ?_
  refine mx_all_cons (mo_call (sm_Sc_passBoundary zz)) ?_
  refine mx_all_cons (mo_st) ?_
  refine mx_all_cons (mo_st) ?_
  refine mx_all_cons (mo_call (sm_Sc_takeNext zz)) ?_
  refine mx_all_cons (mo_st) ?_
  refine mx_all_cons (mo_st) ?_
  refine mx_all_cons (mo_st) ?_
  refine mx_all_cons (mo_st) ?_
  refine mx_all_cons (mo_st) ?_
  refine mx_all_cons (mo_st) ?_
  refine mx_all_cons (mo_sc) ?_
  refine mx_all_cons (mo_st) ?_
  refine mx_all_cons (mo_st) ?_
  refine mx_all_cons (mo_call (sm_Hs_runSlot zz)) ?_
  refine mx_all_cons (mo_st) ?_
  refine mx_all_cons (mo_st) ?_
  refine mx_all_cons (mo_st) ?_
  refine mx_all_cons (mo_st) ?_
  refine mx_all_cons (mo_st) ?_
  refine mx_all_cons (mo_sc) ?_
  refine mx_all_cons (mo_st) ?_
  refine mx_all_cons (mo_st) ?_
  refine mx_all_cons (mo_sc) ?_
  refine mx_all_cons (mo_st) ?_
  refine mx_all_cons (mo_ret) ?_
  exact mx_all_nil
def S_Hs_tick (zz : Nat × Nat) : mx_Sp := mx_S 3 0 0 (t_Hs_tick zz)
theorem sm_Hs_tick (zz : Nat × Nat) : mx_SMono (S_Hs_tick zz) := mx_S_mono (tm_Hs_tick zz)
abbrev rm_Hs_tick : Room := { frames := 7, cells := 0, slots := 0, locals := 153 }
set_option maxHeartbeats 4000000 in
set_option maxRecDepth 100000 in
theorem m_Hs_tick (l : Launch) (zz : Nat × Nat) : mx_Met l y_Hs_tick (wsOf y_Hs_tick c_Hs_tick 3 (some .int)) rm_Hs_tick wcl (mx_Z zz) 0 0 (S_Hs_tick zz) := by
  refine mx_met (cc := c_Hs_tick) (ret := (some .int)) (by decide) rfl ?_
  intro p e s m args below meth c D A Post X hz hr hlk hnm
  have hm : ∀ w ∈ mw, w.before args s = true := fun w h => X.1.2.2.2.2 w (List.mem_cons_of_mem _ h)
  refine mx_all_cons (ok_aload (fun hl kk => lv_aload_n X.1.1 X.1.2.1 d_Hs_tick_0 rfl hl kk) (fun hl kk => lv_aload_nN X.1.1 X.1.2.1 d_Hs_tick_0 rfl hl kk)) ?_
  refine mx_all_cons (ok_get (C := "HeaderSchedule") (T := T_Hs) (N := 11) X (mw_up in_Hs) rfl 8 (by decide) (hm _ w166) (fun _ h9 => h9) d_Hs_tick_1) ?_
  refine mx_all_cons (ok_if (fun kt kf => lv_if_eq X.1.1 X.1.2.1 d_Hs_tick_4 (by decide) kt kf)) ?_
  refine mx_all_cons (ok_aload (fun hl kk => lv_aload_n X.1.1 X.1.2.1 d_Hs_tick_7 rfl hl kk) (fun hl kk => lv_aload_nN X.1.1 X.1.2.1 d_Hs_tick_7 rfl hl kk)) ?_
  refine mx_all_cons (ok_get (C := "HeaderSchedule") (T := T_Hs) (N := 11) X (mw_up in_Hs) rfl 9 (by decide) (hm _ w167) (fun _ h9 => h9) d_Hs_tick_8) ?_
  refine mx_all_cons (ok_if (fun kt kf => lv_if_eq X.1.1 X.1.2.1 d_Hs_tick_11 (by decide) kt kf)) ?_
  refine mx_all_cons (ok_push (fun kk => lv_iconst X.1.1 X.1.2.1 d_Hs_tick_14 (by decide) kk)) ?_
  refine mx_all_cons (ok_iret X hr hlk d_Hs_tick_15) ?_
  refine mx_all_cons (ok_aload (fun hl kk => lv_aload_n X.1.1 X.1.2.1 d_Hs_tick_16 rfl hl kk) (fun hl kk => lv_aload_nN X.1.1 X.1.2.1 d_Hs_tick_16 rfl hl kk)) ?_
  refine mx_all_cons (ok_get (C := "HeaderSchedule") (T := T_Hs) (N := 11) X (mw_up in_Hs) rfl 10 (by decide) (hm _ w168) (fun _ h9 => h9) d_Hs_tick_17) ?_
  refine mx_all_cons (ok_if (fun kt kf => lv_if_le X.1.1 X.1.2.1 d_Hs_tick_20 (by decide) kt kf)) ?_
  refine mx_all_cons (ok_aload (fun hl kk => lv_aload_n X.1.1 X.1.2.1 d_Hs_tick_23 rfl hl kk) (fun hl kk => lv_aload_nN X.1.1 X.1.2.1 d_Hs_tick_23 rfl hl kk)) ?_
  refine mx_all_cons (ok_dup X d_Hs_tick_24) ?_
  refine mx_all_cons (ok_get (C := "HeaderSchedule") (T := T_Hs) (N := 11) X (mw_up in_Hs) rfl 10 (by decide) (hm _ w168) (fun _ h9 => h9) d_Hs_tick_25) ?_
  refine mx_all_cons (ok_push (fun kk => lv_iconst X.1.1 X.1.2.1 d_Hs_tick_28 (by decide) kk)) ?_
  refine mx_all_cons (ok_ii (fun kk => lv_isub X.1.1 X.1.2.1 d_Hs_tick_29 kk)) ?_
  refine mx_all_cons (ok_put (C := "HeaderSchedule") (T := T_Hs) (N := 11) X (mw_up in_Hs) ty_Hs tyok_Hs nm_Hs rfl 10 (by decide) (hm _ w168) (fun _ h9 => h9) rfl (tyok_Hs 10 (by decide)) mx_vI_ok d_Hs_tick_30) ?_
  refine mx_all_cons (ok_push (fun kk => lv_iconst X.1.1 X.1.2.1 d_Hs_tick_33 (by decide) kk)) ?_
  refine mx_all_cons (ok_iret X hr hlk d_Hs_tick_34) ?_
  refine mx_all_cons (ok_aload (fun hl kk => lv_aload_n X.1.1 X.1.2.1 d_Hs_tick_35 rfl hl kk) (fun hl kk => lv_aload_nN X.1.1 X.1.2.1 d_Hs_tick_35 rfl hl kk)) ?_
  refine mx_all_cons (ok_get (C := "HeaderSchedule") (T := T_Hs) (N := 11) X (mw_up in_Hs) rfl 5 (by decide) (hm _ w163) (fun _ h9 => h9) d_Hs_tick_36) ?_
  refine mx_all_cons (ok_callV (C := "HeaderSchedule$Schedule") (T := T_Sc) (N := 8) X (mx_Zok_Z zz) hz ⟨(Nat.le_of_ble_eq_true rfl), (Nat.le_of_ble_eq_true rfl)⟩ (m_Sc_passBoundary l zz) ⟨mx_cwB 0 hm w543 w540 w37 rfl rfl (by decide +kernel) ⟨(Nat.le_of_ble_eq_true rfl), (Nat.le_of_ble_eq_true rfl)⟩, (hm _ w541), hm _ w542⟩ rfl d_Hs_tick_39) ?_
  refine mx_all_cons (ok_aload (fun hl kk => lv_aload_n X.1.1 X.1.2.1 d_Hs_tick_42 rfl hl kk) (fun hl kk => lv_aload_nN X.1.1 X.1.2.1 d_Hs_tick_42 rfl hl kk)) ?_
  refine mx_all_cons (ok_get (C := "HeaderSchedule") (T := T_Hs) (N := 11) X (mw_up in_Hs) rfl 5 (by decide) (hm _ w163) (fun _ h9 => h9) d_Hs_tick_43) ?_
  refine mx_all_cons (ok_callV (C := "HeaderSchedule$Schedule") (T := T_Sc) (N := 8) X (mx_Zok_Z zz) hz ⟨(Nat.le_of_ble_eq_true rfl), (Nat.le_of_ble_eq_true rfl)⟩ (m_Sc_takeNext l zz) ⟨mx_cwB 0 hm w561 w558 w37 rfl rfl (by decide +kernel) ⟨(Nat.le_of_ble_eq_true rfl), (Nat.le_of_ble_eq_true rfl)⟩, (hm _ w559), hm _ w560⟩ rfl d_Hs_tick_46) ?_
  refine mx_all_cons (ok_astore (fun hl kk => lv_astore_n X.1.1 X.1.2.1 d_Hs_tick_49 rfl hl (by decide) rfl kk) (fun hl kk => lv_astore_nN X.1.1 X.1.2.1 d_Hs_tick_49 rfl hl (by decide) rfl kk)) ?_
  refine mx_all_cons (ok_aload (fun hl kk => lv_aload_n X.1.1 X.1.2.1 d_Hs_tick_50 rfl hl kk) (fun hl kk => lv_aload_nN X.1.1 X.1.2.1 d_Hs_tick_50 rfl hl kk)) ?_
  refine mx_all_cons (ok_aload (fun hl kk => lv_aload_n X.1.1 X.1.2.1 d_Hs_tick_51 rfl hl kk) (fun hl kk => lv_aload_nN X.1.1 X.1.2.1 d_Hs_tick_51 rfl hl kk)) ?_
  refine mx_all_cons (ok_get (C := "HeaderSchedule$Entry") (T := T_En) (N := 3) X (mw_up in_En) rfl 2 (by decide) (hm _ w473) (fun _ h9 => h9) d_Hs_tick_52) ?_
  refine mx_all_cons (ok_push (fun kk => lv_iconst X.1.1 X.1.2.1 d_Hs_tick_55 (by decide) kk)) ?_
  refine mx_all_cons (ok_ii (fun kk => lv_isub X.1.1 X.1.2.1 d_Hs_tick_56 kk)) ?_
  refine mx_all_cons (ok_put (C := "HeaderSchedule") (T := T_Hs) (N := 11) X (mw_up in_Hs) ty_Hs tyok_Hs nm_Hs rfl 10 (by decide) (hm _ w168) (fun _ h9 => h9) rfl (tyok_Hs 10 (by decide)) mx_vI_ok d_Hs_tick_57) ?_
  refine mx_all_cons (ok_aload (fun hl kk => lv_aload_n X.1.1 X.1.2.1 d_Hs_tick_60 rfl hl kk) (fun hl kk => lv_aload_nN X.1.1 X.1.2.1 d_Hs_tick_60 rfl hl kk)) ?_
  refine mx_all_cons (ok_aload (fun hl kk => lv_aload_n X.1.1 X.1.2.1 d_Hs_tick_61 rfl hl kk) (fun hl kk => lv_aload_nN X.1.1 X.1.2.1 d_Hs_tick_61 rfl hl kk)) ?_
  refine mx_all_cons (ok_callV (C := "HeaderSchedule") (T := T_Hs) (N := 11) X (mx_Zok_Z zz) hz ⟨(Nat.le_of_ble_eq_true rfl), (Nat.le_of_ble_eq_true rfl)⟩ (m_Hs_runSlot l zz) ⟨mx_cwB 1 hm w567 w564 w33 rfl rfl (by decide +kernel) ⟨(Nat.le_of_ble_eq_true rfl), (Nat.le_of_ble_eq_true rfl)⟩, (hm _ w566), hm _ w11⟩ rfl d_Hs_tick_62) ?_
  refine mx_all_cons (ok_istore (fun hl kk => lv_istore_n X.1.1 X.1.2.1 d_Hs_tick_65 rfl hl (by decide) rfl kk)) ?_
  refine mx_all_cons (ok_aload (fun hl kk => lv_aload_n X.1.1 X.1.2.1 d_Hs_tick_66 rfl hl kk) (fun hl kk => lv_aload_nN X.1.1 X.1.2.1 d_Hs_tick_66 rfl hl kk)) ?_
  refine mx_all_cons (ok_get (C := "HeaderSchedule") (T := T_Hs) (N := 11) X (mw_up in_Hs) rfl 7 (by decide) (hm _ w165) (fun _ h9 => h9) d_Hs_tick_67) ?_
  refine mx_all_cons (ok_iload (fun hl kk => lv_iload_n X.1.1 X.1.2.1 d_Hs_tick_70 rfl hl kk)) ?_
  refine mx_all_cons (ok_dup2 X d_Hs_tick_71) ?_
  refine mx_all_cons (ok_iald X d_Hs_tick_72) ?_
  refine mx_all_cons (ok_push (fun kk => lv_iconst X.1.1 X.1.2.1 d_Hs_tick_73 (by decide) kk)) ?_
  refine mx_all_cons (ok_ii (fun kk => lv_iadd X.1.1 X.1.2.1 d_Hs_tick_74 kk)) ?_
  refine mx_all_cons (ok_iast X d_Hs_tick_75) ?_
  refine mx_all_cons (ok_iload (fun hl kk => lv_iload_n X.1.1 X.1.2.1 d_Hs_tick_76 rfl hl kk)) ?_
  refine mx_all_cons (ok_iret X hr hlk d_Hs_tick_77) ?_
  exact mx_all_nil
theorem st_Hs_tick_0 (zz : Nat × Nat) (r : mx_T) (ls : mx_L) (st : List Value) (h : mx_H) (c n : Nat) : mx_G r (t_Hs_tick zz) 0 ls st h c n = (o_aload 1 0) r (mx_G r (t_Hs_tick zz)) 0 ls st h c n := mx_G_eq (tm_Hs_tick zz) r 0 ls st h c n
theorem st_Hs_tick_1 (zz : Nat × Nat) (r : mx_T) (ls : mx_L) (st : List Value) (h : mx_H) (c n : Nat) : mx_G r (t_Hs_tick zz) 1 ls st h c n = (o_get 0 8) r (mx_G r (t_Hs_tick zz)) 1 ls st h c n := mx_G_eq (tm_Hs_tick zz) r 1 ls st h c n
theorem st_Hs_tick_4 (zz : Nat × Nat) (r : mx_T) (ls : mx_L) (st : List Value) (h : mx_H) (c n : Nat) : mx_G r (t_Hs_tick zz) 4 ls st h c n = (o_if 14 (fun x => x = 0)) r (mx_G r (t_Hs_tick zz)) 4 ls st h c n := mx_G_eq (tm_Hs_tick zz) r 4 ls st h c n
theorem st_Hs_tick_7 (zz : Nat × Nat) (r : mx_T) (ls : mx_L) (st : List Value) (h : mx_H) (c n : Nat) : mx_G r (t_Hs_tick zz) 7 ls st h c n = (o_aload 1 0) r (mx_G r (t_Hs_tick zz)) 7 ls st h c n := mx_G_eq (tm_Hs_tick zz) r 7 ls st h c n
theorem st_Hs_tick_8 (zz : Nat × Nat) (r : mx_T) (ls : mx_L) (st : List Value) (h : mx_H) (c n : Nat) : mx_G r (t_Hs_tick zz) 8 ls st h c n = (o_get 0 9) r (mx_G r (t_Hs_tick zz)) 8 ls st h c n := mx_G_eq (tm_Hs_tick zz) r 8 ls st h c n
theorem st_Hs_tick_11 (zz : Nat × Nat) (r : mx_T) (ls : mx_L) (st : List Value) (h : mx_H) (c n : Nat) : mx_G r (t_Hs_tick zz) 11 ls st h c n = (o_if 16 (fun x => x = 0)) r (mx_G r (t_Hs_tick zz)) 11 ls st h c n := mx_G_eq (tm_Hs_tick zz) r 11 ls st h c n
theorem st_Hs_tick_14 (zz : Nat × Nat) (r : mx_T) (ls : mx_L) (st : List Value) (h : mx_H) (c n : Nat) : mx_G r (t_Hs_tick zz) 14 ls st h c n = (o_push 1 (.int (-1))) r (mx_G r (t_Hs_tick zz)) 14 ls st h c n := mx_G_eq (tm_Hs_tick zz) r 14 ls st h c n
theorem st_Hs_tick_15 (zz : Nat × Nat) (r : mx_T) (ls : mx_L) (st : List Value) (h : mx_H) (c n : Nat) : mx_G r (t_Hs_tick zz) 15 ls st h c n = (o_iret) r (mx_G r (t_Hs_tick zz)) 15 ls st h c n := mx_G_eq (tm_Hs_tick zz) r 15 ls st h c n
theorem st_Hs_tick_16 (zz : Nat × Nat) (r : mx_T) (ls : mx_L) (st : List Value) (h : mx_H) (c n : Nat) : mx_G r (t_Hs_tick zz) 16 ls st h c n = (o_aload 1 0) r (mx_G r (t_Hs_tick zz)) 16 ls st h c n := mx_G_eq (tm_Hs_tick zz) r 16 ls st h c n
theorem st_Hs_tick_17 (zz : Nat × Nat) (r : mx_T) (ls : mx_L) (st : List Value) (h : mx_H) (c n : Nat) : mx_G r (t_Hs_tick zz) 17 ls st h c n = (o_get 0 10) r (mx_G r (t_Hs_tick zz)) 17 ls st h c n := mx_G_eq (tm_Hs_tick zz) r 17 ls st h c n
theorem st_Hs_tick_20 (zz : Nat × Nat) (r : mx_T) (ls : mx_L) (st : List Value) (h : mx_H) (c n : Nat) : mx_G r (t_Hs_tick zz) 20 ls st h c n = (o_if 35 (fun x => x ≤ 0)) r (mx_G r (t_Hs_tick zz)) 20 ls st h c n := mx_G_eq (tm_Hs_tick zz) r 20 ls st h c n
theorem st_Hs_tick_23 (zz : Nat × Nat) (r : mx_T) (ls : mx_L) (st : List Value) (h : mx_H) (c n : Nat) : mx_G r (t_Hs_tick zz) 23 ls st h c n = (o_aload 1 0) r (mx_G r (t_Hs_tick zz)) 23 ls st h c n := mx_G_eq (tm_Hs_tick zz) r 23 ls st h c n
theorem st_Hs_tick_24 (zz : Nat × Nat) (r : mx_T) (ls : mx_L) (st : List Value) (h : mx_H) (c n : Nat) : mx_G r (t_Hs_tick zz) 24 ls st h c n = (o_dup) r (mx_G r (t_Hs_tick zz)) 24 ls st h c n := mx_G_eq (tm_Hs_tick zz) r 24 ls st h c n
theorem st_Hs_tick_25 (zz : Nat × Nat) (r : mx_T) (ls : mx_L) (st : List Value) (h : mx_H) (c n : Nat) : mx_G r (t_Hs_tick zz) 25 ls st h c n = (o_get 0 10) r (mx_G r (t_Hs_tick zz)) 25 ls st h c n := mx_G_eq (tm_Hs_tick zz) r 25 ls st h c n
theorem st_Hs_tick_28 (zz : Nat × Nat) (r : mx_T) (ls : mx_L) (st : List Value) (h : mx_H) (c n : Nat) : mx_G r (t_Hs_tick zz) 28 ls st h c n = (o_push 1 (.int 1)) r (mx_G r (t_Hs_tick zz)) 28 ls st h c n := mx_G_eq (tm_Hs_tick zz) r 28 ls st h c n
theorem st_Hs_tick_29 (zz : Nat × Nat) (r : mx_T) (ls : mx_L) (st : List Value) (h : mx_H) (c n : Nat) : mx_G r (t_Hs_tick zz) 29 ls st h c n = (o_ii (fun x y => x - y)) r (mx_G r (t_Hs_tick zz)) 29 ls st h c n := mx_G_eq (tm_Hs_tick zz) r 29 ls st h c n
theorem st_Hs_tick_30 (zz : Nat × Nat) (r : mx_T) (ls : mx_L) (st : List Value) (h : mx_H) (c n : Nat) : mx_G r (t_Hs_tick zz) 30 ls st h c n = (o_put 0 10 mx_vI) r (mx_G r (t_Hs_tick zz)) 30 ls st h c n := mx_G_eq (tm_Hs_tick zz) r 30 ls st h c n
theorem st_Hs_tick_33 (zz : Nat × Nat) (r : mx_T) (ls : mx_L) (st : List Value) (h : mx_H) (c n : Nat) : mx_G r (t_Hs_tick zz) 33 ls st h c n = (o_push 1 (.int 0)) r (mx_G r (t_Hs_tick zz)) 33 ls st h c n := mx_G_eq (tm_Hs_tick zz) r 33 ls st h c n
theorem st_Hs_tick_34 (zz : Nat × Nat) (r : mx_T) (ls : mx_L) (st : List Value) (h : mx_H) (c n : Nat) : mx_G r (t_Hs_tick zz) 34 ls st h c n = (o_iret) r (mx_G r (t_Hs_tick zz)) 34 ls st h c n := mx_G_eq (tm_Hs_tick zz) r 34 ls st h c n
theorem st_Hs_tick_35 (zz : Nat × Nat) (r : mx_T) (ls : mx_L) (st : List Value) (h : mx_H) (c n : Nat) : mx_G r (t_Hs_tick zz) 35 ls st h c n = (o_aload 1 0) r (mx_G r (t_Hs_tick zz)) 35 ls st h c n := mx_G_eq (tm_Hs_tick zz) r 35 ls st h c n
theorem st_Hs_tick_36 (zz : Nat × Nat) (r : mx_T) (ls : mx_L) (st : List Value) (h : mx_H) (c n : Nat) : mx_G r (t_Hs_tick zz) 36 ls st h c n = (o_get 0 5) r (mx_G r (t_Hs_tick zz)) 36 ls st h c n := mx_G_eq (tm_Hs_tick zz) r 36 ls st h c n
theorem st_Hs_tick_39 (zz : Nat × Nat) (r : mx_T) (ls : mx_L) (st : List Value) (h : mx_H) (c n : Nat) : mx_G r (t_Hs_tick zz) 39 ls st h c n = (o_call 0 0 1 0 0 (mx_rv 7) (S_Sc_passBoundary zz)) r (mx_G r (t_Hs_tick zz)) 39 ls st h c n := mx_G_eq (tm_Hs_tick zz) r 39 ls st h c n
theorem st_Hs_tick_42 (zz : Nat × Nat) (r : mx_T) (ls : mx_L) (st : List Value) (h : mx_H) (c n : Nat) : mx_G r (t_Hs_tick zz) 42 ls st h c n = (o_aload 1 0) r (mx_G r (t_Hs_tick zz)) 42 ls st h c n := mx_G_eq (tm_Hs_tick zz) r 42 ls st h c n
theorem st_Hs_tick_43 (zz : Nat × Nat) (r : mx_T) (ls : mx_L) (st : List Value) (h : mx_H) (c n : Nat) : mx_G r (t_Hs_tick zz) 43 ls st h c n = (o_get 0 5) r (mx_G r (t_Hs_tick zz)) 43 ls st h c n := mx_G_eq (tm_Hs_tick zz) r 43 ls st h c n
theorem st_Hs_tick_46 (zz : Nat × Nat) (r : mx_T) (ls : mx_L) (st : List Value) (h : mx_H) (c n : Nat) : mx_G r (t_Hs_tick zz) 46 ls st h c n = (o_call 0 0 1 0 0 (mx_rv 7) (S_Sc_takeNext zz)) r (mx_G r (t_Hs_tick zz)) 46 ls st h c n := mx_G_eq (tm_Hs_tick zz) r 46 ls st h c n
theorem st_Hs_tick_49 (zz : Nat × Nat) (r : mx_T) (ls : mx_L) (st : List Value) (h : mx_H) (c n : Nat) : mx_G r (t_Hs_tick zz) 49 ls st h c n = (o_astore 1 1) r (mx_G r (t_Hs_tick zz)) 49 ls st h c n := mx_G_eq (tm_Hs_tick zz) r 49 ls st h c n
theorem st_Hs_tick_50 (zz : Nat × Nat) (r : mx_T) (ls : mx_L) (st : List Value) (h : mx_H) (c n : Nat) : mx_G r (t_Hs_tick zz) 50 ls st h c n = (o_aload 1 0) r (mx_G r (t_Hs_tick zz)) 50 ls st h c n := mx_G_eq (tm_Hs_tick zz) r 50 ls st h c n
theorem st_Hs_tick_51 (zz : Nat × Nat) (r : mx_T) (ls : mx_L) (st : List Value) (h : mx_H) (c n : Nat) : mx_G r (t_Hs_tick zz) 51 ls st h c n = (o_aload 1 1) r (mx_G r (t_Hs_tick zz)) 51 ls st h c n := mx_G_eq (tm_Hs_tick zz) r 51 ls st h c n
theorem st_Hs_tick_52 (zz : Nat × Nat) (r : mx_T) (ls : mx_L) (st : List Value) (h : mx_H) (c n : Nat) : mx_G r (t_Hs_tick zz) 52 ls st h c n = (o_get 5 2) r (mx_G r (t_Hs_tick zz)) 52 ls st h c n := mx_G_eq (tm_Hs_tick zz) r 52 ls st h c n
theorem st_Hs_tick_55 (zz : Nat × Nat) (r : mx_T) (ls : mx_L) (st : List Value) (h : mx_H) (c n : Nat) : mx_G r (t_Hs_tick zz) 55 ls st h c n = (o_push 1 (.int 1)) r (mx_G r (t_Hs_tick zz)) 55 ls st h c n := mx_G_eq (tm_Hs_tick zz) r 55 ls st h c n
theorem st_Hs_tick_56 (zz : Nat × Nat) (r : mx_T) (ls : mx_L) (st : List Value) (h : mx_H) (c n : Nat) : mx_G r (t_Hs_tick zz) 56 ls st h c n = (o_ii (fun x y => x - y)) r (mx_G r (t_Hs_tick zz)) 56 ls st h c n := mx_G_eq (tm_Hs_tick zz) r 56 ls st h c n
theorem st_Hs_tick_57 (zz : Nat × Nat) (r : mx_T) (ls : mx_L) (st : List Value) (h : mx_H) (c n : Nat) : mx_G r (t_Hs_tick zz) 57 ls st h c n = (o_put 0 10 mx_vI) r (mx_G r (t_Hs_tick zz)) 57 ls st h c n := mx_G_eq (tm_Hs_tick zz) r 57 ls st h c n
theorem st_Hs_tick_60 (zz : Nat × Nat) (r : mx_T) (ls : mx_L) (st : List Value) (h : mx_H) (c n : Nat) : mx_G r (t_Hs_tick zz) 60 ls st h c n = (o_aload 1 0) r (mx_G r (t_Hs_tick zz)) 60 ls st h c n := mx_G_eq (tm_Hs_tick zz) r 60 ls st h c n
theorem st_Hs_tick_61 (zz : Nat × Nat) (r : mx_T) (ls : mx_L) (st : List Value) (h : mx_H) (c n : Nat) : mx_G r (t_Hs_tick zz) 61 ls st h c n = (o_aload 1 1) r (mx_G r (t_Hs_tick zz)) 61 ls st h c n := mx_G_eq (tm_Hs_tick zz) r 61 ls st h c n
theorem st_Hs_tick_62 (zz : Nat × Nat) (r : mx_T) (ls : mx_L) (st : List Value) (h : mx_H) (c n : Nat) : mx_G r (t_Hs_tick zz) 62 ls st h c n = (o_call 0 0 2 0 0 (mx_rv 0) (S_Hs_runSlot zz)) r (mx_G r (t_Hs_tick zz)) 62 ls st h c n := mx_G_eq (tm_Hs_tick zz) r 62 ls st h c n
theorem st_Hs_tick_65 (zz : Nat × Nat) (r : mx_T) (ls : mx_L) (st : List Value) (h : mx_H) (c n : Nat) : mx_G r (t_Hs_tick zz) 65 ls st h c n = (o_istore 1 2) r (mx_G r (t_Hs_tick zz)) 65 ls st h c n := mx_G_eq (tm_Hs_tick zz) r 65 ls st h c n
theorem st_Hs_tick_66 (zz : Nat × Nat) (r : mx_T) (ls : mx_L) (st : List Value) (h : mx_H) (c n : Nat) : mx_G r (t_Hs_tick zz) 66 ls st h c n = (o_aload 1 0) r (mx_G r (t_Hs_tick zz)) 66 ls st h c n := mx_G_eq (tm_Hs_tick zz) r 66 ls st h c n
theorem st_Hs_tick_67 (zz : Nat × Nat) (r : mx_T) (ls : mx_L) (st : List Value) (h : mx_H) (c n : Nat) : mx_G r (t_Hs_tick zz) 67 ls st h c n = (o_get 0 7) r (mx_G r (t_Hs_tick zz)) 67 ls st h c n := mx_G_eq (tm_Hs_tick zz) r 67 ls st h c n
theorem st_Hs_tick_70 (zz : Nat × Nat) (r : mx_T) (ls : mx_L) (st : List Value) (h : mx_H) (c n : Nat) : mx_G r (t_Hs_tick zz) 70 ls st h c n = (o_iload 1 2) r (mx_G r (t_Hs_tick zz)) 70 ls st h c n := mx_G_eq (tm_Hs_tick zz) r 70 ls st h c n
theorem st_Hs_tick_71 (zz : Nat × Nat) (r : mx_T) (ls : mx_L) (st : List Value) (h : mx_H) (c n : Nat) : mx_G r (t_Hs_tick zz) 71 ls st h c n = (o_dup2) r (mx_G r (t_Hs_tick zz)) 71 ls st h c n := mx_G_eq (tm_Hs_tick zz) r 71 ls st h c n
theorem st_Hs_tick_72 (zz : Nat × Nat) (r : mx_T) (ls : mx_L) (st : List Value) (h : mx_H) (c n : Nat) : mx_G r (t_Hs_tick zz) 72 ls st h c n = (o_iald .int) r (mx_G r (t_Hs_tick zz)) 72 ls st h c n := mx_G_eq (tm_Hs_tick zz) r 72 ls st h c n
theorem st_Hs_tick_73 (zz : Nat × Nat) (r : mx_T) (ls : mx_L) (st : List Value) (h : mx_H) (c n : Nat) : mx_G r (t_Hs_tick zz) 73 ls st h c n = (o_push 1 (.int 1)) r (mx_G r (t_Hs_tick zz)) 73 ls st h c n := mx_G_eq (tm_Hs_tick zz) r 73 ls st h c n
theorem st_Hs_tick_74 (zz : Nat × Nat) (r : mx_T) (ls : mx_L) (st : List Value) (h : mx_H) (c n : Nat) : mx_G r (t_Hs_tick zz) 74 ls st h c n = (o_ii (fun x y => x + y)) r (mx_G r (t_Hs_tick zz)) 74 ls st h c n := mx_G_eq (tm_Hs_tick zz) r 74 ls st h c n
theorem st_Hs_tick_75 (zz : Nat × Nat) (r : mx_T) (ls : mx_L) (st : List Value) (h : mx_H) (c n : Nat) : mx_G r (t_Hs_tick zz) 75 ls st h c n = (o_iast .int (fun x => x)) r (mx_G r (t_Hs_tick zz)) 75 ls st h c n := mx_G_eq (tm_Hs_tick zz) r 75 ls st h c n
theorem st_Hs_tick_76 (zz : Nat × Nat) (r : mx_T) (ls : mx_L) (st : List Value) (h : mx_H) (c n : Nat) : mx_G r (t_Hs_tick zz) 76 ls st h c n = (o_iload 1 2) r (mx_G r (t_Hs_tick zz)) 76 ls st h c n := mx_G_eq (tm_Hs_tick zz) r 76 ls st h c n
theorem st_Hs_tick_77 (zz : Nat × Nat) (r : mx_T) (ls : mx_L) (st : List Value) (h : mx_H) (c n : Nat) : mx_G r (t_Hs_tick zz) 77 ls st h c n = (o_iret) r (mx_G r (t_Hs_tick zz)) 77 ls st h c n := mx_G_eq (tm_Hs_tick zz) r 77 ls st h c n
theorem d_Hs_bus_0 : decode c_Hs_bus 0 = .ok (.aload_n 0, 1) := by decide +kernel
theorem d_Hs_bus_1 : decode c_Hs_bus 1 = .ok (.getfield 39, 3) := by decide +kernel
theorem d_Hs_bus_4 : decode c_Hs_bus 4 = .ok (.iload_n 1, 1) := by decide +kernel
theorem d_Hs_bus_5 : decode c_Hs_bus 5 = .ok (.invokevirtual 207, 3) := by decide +kernel
theorem d_Hs_bus_8 : decode c_Hs_bus 8 = .ok (.ireturn, 1) := by decide +kernel
def t_Hs_bus (zz : Nat × Nat) : List (Nat × mx_O) := [(0, o_aload 1 0),
  (1, o_get 0 6),
  (4, o_iload 1 1),
  (5, o_call 0 0 2 0 0 (mx_rv 8) (S_Wi_byteAt zz)),
  (8, o_iret)]
set_option maxRecDepth 100000 in
theorem tm_Hs_bus (zz : Nat × Nat) : mx_All (fun _ o => mx_Mono o) (t_Hs_bus zz) := by
  refine mx_all_cons (mo_st) ?_
  refine mx_all_cons (mo_st) ?_
  refine mx_all_cons (mo_st) ?_
  refine mx_all_cons (mo_call (sm_Wi_byteAt zz)) ?_
  refine mx_all_cons (mo_ret) ?_
  exact mx_all_nil
def S_Hs_bus (zz : Nat × Nat) : mx_Sp := mx_S 2 0 0 (t_Hs_bus zz)
theorem sm_Hs_bus (zz : Nat × Nat) : mx_SMono (S_Hs_bus zz) := mx_S_mono (tm_Hs_bus zz)
abbrev rm_Hs_bus : Room := { frames := 2, cells := 0, slots := 0, locals := 43 }
set_option maxHeartbeats 4000000 in
set_option maxRecDepth 100000 in
theorem m_Hs_bus (l : Launch) (zz : Nat × Nat) : mx_Met l y_Hs_bus (wsOf y_Hs_bus c_Hs_bus 2 (some .int)) rm_Hs_bus wcl (mx_Z zz) 0 0 (S_Hs_bus zz) := by
  refine mx_met (cc := c_Hs_bus) (ret := (some .int)) (by decide) rfl ?_
  intro p e s m args below meth c D A Post X hz hr hlk hnm
  have hm : ∀ w ∈ mw, w.before args s = true := fun w h => X.1.2.2.2.2 w (List.mem_cons_of_mem _ h)
  refine mx_all_cons (ok_aload (fun hl kk => lv_aload_n X.1.1 X.1.2.1 d_Hs_bus_0 rfl hl kk) (fun hl kk => lv_aload_nN X.1.1 X.1.2.1 d_Hs_bus_0 rfl hl kk)) ?_
  refine mx_all_cons (ok_get (C := "HeaderSchedule") (T := T_Hs) (N := 11) X (mw_up in_Hs) rfl 6 (by decide) (hm _ w164) (fun _ h9 => h9) d_Hs_bus_1) ?_
  refine mx_all_cons (ok_iload (fun hl kk => lv_iload_n X.1.1 X.1.2.1 d_Hs_bus_4 rfl hl kk)) ?_
  refine mx_all_cons (ok_callV (C := "HeaderSchedule$Wire") (T := T_Wi) (N := 4) X (mx_Zok_Z zz) hz ⟨(Nat.le_of_ble_eq_true rfl), (Nat.le_of_ble_eq_true rfl)⟩ (m_Wi_byteAt l zz) ⟨mx_cwB 1 hm w645 w642 w39 rfl rfl (by decide +kernel) ⟨(Nat.le_of_ble_eq_true rfl), (Nat.le_of_ble_eq_true rfl)⟩, (hm _ w643), hm _ w644⟩ rfl d_Hs_bus_5) ?_
  refine mx_all_cons (ok_iret X hr hlk d_Hs_bus_8) ?_
  exact mx_all_nil
theorem st_Hs_bus_0 (zz : Nat × Nat) (r : mx_T) (ls : mx_L) (st : List Value) (h : mx_H) (c n : Nat) : mx_G r (t_Hs_bus zz) 0 ls st h c n = (o_aload 1 0) r (mx_G r (t_Hs_bus zz)) 0 ls st h c n := mx_G_eq (tm_Hs_bus zz) r 0 ls st h c n
theorem st_Hs_bus_1 (zz : Nat × Nat) (r : mx_T) (ls : mx_L) (st : List Value) (h : mx_H) (c n : Nat) : mx_G r (t_Hs_bus zz) 1 ls st h c n = (o_get 0 6) r (mx_G r (t_Hs_bus zz)) 1 ls st h c n := mx_G_eq (tm_Hs_bus zz) r 1 ls st h c n
theorem st_Hs_bus_4 (zz : Nat × Nat) (r : mx_T) (ls : mx_L) (st : List Value) (h : mx_H) (c n : Nat) : mx_G r (t_Hs_bus zz) 4 ls st h c n = (o_iload 1 1) r (mx_G r (t_Hs_bus zz)) 4 ls st h c n := mx_G_eq (tm_Hs_bus zz) r 4 ls st h c n
theorem st_Hs_bus_5 (zz : Nat × Nat) (r : mx_T) (ls : mx_L) (st : List Value) (h : mx_H) (c n : Nat) : mx_G r (t_Hs_bus zz) 5 ls st h c n = (o_call 0 0 2 0 0 (mx_rv 8) (S_Wi_byteAt zz)) r (mx_G r (t_Hs_bus zz)) 5 ls st h c n := mx_G_eq (tm_Hs_bus zz) r 5 ls st h c n
theorem st_Hs_bus_8 (zz : Nat × Nat) (r : mx_T) (ls : mx_L) (st : List Value) (h : mx_H) (c n : Nat) : mx_G r (t_Hs_bus zz) 8 ls st h c n = (o_iret) r (mx_G r (t_Hs_bus zz)) 8 ls st h c n := mx_G_eq (tm_Hs_bus zz) r 8 ls st h c n
theorem d_Hs_count_0 : decode c_Hs_count 0 = .ok (.iload_n 1, 1) := by decide +kernel
theorem d_Hs_count_1 : decode c_Hs_count 1 = .ok (.iconst 1, 1) := by decide +kernel
theorem d_Hs_count_2 : decode c_Hs_count 2 = .ok (.iconst 4, 1) := by decide +kernel
theorem d_Hs_count_3 : decode c_Hs_count 3 = .ok (.invokestatic 66, 3) := by decide +kernel
theorem d_Hs_count_6 : decode c_Hs_count 6 = .ok (.ifCond .eq 12, 3) := by decide +kernel
theorem d_Hs_count_9 : decode c_Hs_count 9 = .ok (.aload_n 0, 1) := by decide +kernel
theorem d_Hs_count_10 : decode c_Hs_count 10 = .ok (.getfield 43, 3) := by decide +kernel
theorem d_Hs_count_13 : decode c_Hs_count 13 = .ok (.iload_n 1, 1) := by decide +kernel
theorem d_Hs_count_14 : decode c_Hs_count 14 = .ok (.iaload, 1) := by decide +kernel
theorem d_Hs_count_15 : decode c_Hs_count 15 = .ok (.goto 4, 3) := by decide +kernel
theorem d_Hs_count_18 : decode c_Hs_count 18 = .ok (.iconst (-1), 1) := by decide +kernel
theorem d_Hs_count_19 : decode c_Hs_count 19 = .ok (.ireturn, 1) := by decide +kernel
def t_Hs_count (zz : Nat × Nat) : List (Nat × mx_O) := [(0, o_iload 1 1),
  (1, o_push 1 (.int 1)),
  (2, o_push 1 (.int 4)),
  (3, o_call 0 0 3 0 0 (fun _ _ => True) (S_Hs_isWithin zz)),
  (6, o_if 18 (fun x => x = 0)),
  (9, o_aload 1 0),
  (10, o_get 0 7),
  (13, o_iload 1 1),
  (14, o_iald .int),
  (15, o_goto 19),
  (18, o_push 1 (.int (-1))),
  (19, o_iret)]
set_option maxRecDepth 100000 in
theorem tm_Hs_count (zz : Nat × Nat) : mx_All (fun _ o => mx_Mono o) (t_Hs_count zz) := by
  refine mx_all_cons (mo_st) ?_
  refine mx_all_cons (mo_st) ?_
  refine mx_all_cons (mo_st) ?_
  refine mx_all_cons (mo_call (sm_Hs_isWithin zz)) ?_
  refine mx_all_cons (mo_br) ?_
  refine mx_all_cons (mo_st) ?_
  refine mx_all_cons (mo_st) ?_
  refine mx_all_cons (mo_st) ?_
  refine mx_all_cons (mo_sc) ?_
  refine mx_all_cons (mo_st) ?_
  refine mx_all_cons (mo_st) ?_
  refine mx_all_cons (mo_ret) ?_
  exact mx_all_nil
def S_Hs_count (zz : Nat × Nat) : mx_Sp := mx_S 2 0 0 (t_Hs_count zz)
theorem sm_Hs_count (zz : Nat × Nat) : mx_SMono (S_Hs_count zz) := mx_S_mono (tm_Hs_count zz)
abbrev rm_Hs_count : Room := { frames := 1, cells := 0, slots := 0, locals := 22 }
set_option maxHeartbeats 4000000 in
set_option maxRecDepth 100000 in
theorem m_Hs_count (l : Launch) (zz : Nat × Nat) : mx_Met l y_Hs_count (wsOf y_Hs_count c_Hs_count 2 (some .int)) rm_Hs_count wcl (mx_Z zz) 0 0 (S_Hs_count zz) := by
  refine mx_met (cc := c_Hs_count) (ret := (some .int)) (by decide) rfl ?_
  intro p e s m args below meth c D A Post X hz hr hlk hnm
  have hm : ∀ w ∈ mw, w.before args s = true := fun w h => X.1.2.2.2.2 w (List.mem_cons_of_mem _ h)
  refine mx_all_cons (ok_iload (fun hl kk => lv_iload_n X.1.1 X.1.2.1 d_Hs_count_0 rfl hl kk)) ?_
  refine mx_all_cons (ok_push (fun kk => lv_iconst X.1.1 X.1.2.1 d_Hs_count_1 (by decide) kk)) ?_
  refine mx_all_cons (ok_push (fun kk => lv_iconst X.1.1 X.1.2.1 d_Hs_count_2 (by decide) kk)) ?_
  refine mx_all_cons (ok_callS X (mx_Zok_Z zz) hz ⟨(Nat.le_of_ble_eq_true rfl), (Nat.le_of_ble_eq_true rfl)⟩ (m_Hs_isWithin l zz) ⟨mx_cwB 3 hm w206 w204 w33 rfl rfl (by decide +kernel) ⟨(Nat.le_of_ble_eq_true rfl), (Nat.le_of_ble_eq_true rfl)⟩, (hm _ w205)⟩ d_Hs_count_3) ?_
  refine mx_all_cons (ok_if (fun kt kf => lv_if_eq X.1.1 X.1.2.1 d_Hs_count_6 (by decide) kt kf)) ?_
  refine mx_all_cons (ok_aload (fun hl kk => lv_aload_n X.1.1 X.1.2.1 d_Hs_count_9 rfl hl kk) (fun hl kk => lv_aload_nN X.1.1 X.1.2.1 d_Hs_count_9 rfl hl kk)) ?_
  refine mx_all_cons (ok_get (C := "HeaderSchedule") (T := T_Hs) (N := 11) X (mw_up in_Hs) rfl 7 (by decide) (hm _ w165) (fun _ h9 => h9) d_Hs_count_10) ?_
  refine mx_all_cons (ok_iload (fun hl kk => lv_iload_n X.1.1 X.1.2.1 d_Hs_count_13 rfl hl kk)) ?_
  refine mx_all_cons (ok_iald X d_Hs_count_14) ?_
  refine mx_all_cons (ok_goto X d_Hs_count_15 (by decide)) ?_
  refine mx_all_cons (ok_push (fun kk => lv_iconst X.1.1 X.1.2.1 d_Hs_count_18 (by decide) kk)) ?_
  refine mx_all_cons (ok_iret X hr hlk d_Hs_count_19) ?_
  exact mx_all_nil
theorem st_Hs_count_0 (zz : Nat × Nat) (r : mx_T) (ls : mx_L) (st : List Value) (h : mx_H) (c n : Nat) : mx_G r (t_Hs_count zz) 0 ls st h c n = (o_iload 1 1) r (mx_G r (t_Hs_count zz)) 0 ls st h c n := mx_G_eq (tm_Hs_count zz) r 0 ls st h c n
theorem st_Hs_count_1 (zz : Nat × Nat) (r : mx_T) (ls : mx_L) (st : List Value) (h : mx_H) (c n : Nat) : mx_G r (t_Hs_count zz) 1 ls st h c n = (o_push 1 (.int 1)) r (mx_G r (t_Hs_count zz)) 1 ls st h c n := mx_G_eq (tm_Hs_count zz) r 1 ls st h c n
theorem st_Hs_count_2 (zz : Nat × Nat) (r : mx_T) (ls : mx_L) (st : List Value) (h : mx_H) (c n : Nat) : mx_G r (t_Hs_count zz) 2 ls st h c n = (o_push 1 (.int 4)) r (mx_G r (t_Hs_count zz)) 2 ls st h c n := mx_G_eq (tm_Hs_count zz) r 2 ls st h c n
theorem st_Hs_count_3 (zz : Nat × Nat) (r : mx_T) (ls : mx_L) (st : List Value) (h : mx_H) (c n : Nat) : mx_G r (t_Hs_count zz) 3 ls st h c n = (o_call 0 0 3 0 0 (fun _ _ => True) (S_Hs_isWithin zz)) r (mx_G r (t_Hs_count zz)) 3 ls st h c n := mx_G_eq (tm_Hs_count zz) r 3 ls st h c n
theorem st_Hs_count_6 (zz : Nat × Nat) (r : mx_T) (ls : mx_L) (st : List Value) (h : mx_H) (c n : Nat) : mx_G r (t_Hs_count zz) 6 ls st h c n = (o_if 18 (fun x => x = 0)) r (mx_G r (t_Hs_count zz)) 6 ls st h c n := mx_G_eq (tm_Hs_count zz) r 6 ls st h c n
theorem st_Hs_count_9 (zz : Nat × Nat) (r : mx_T) (ls : mx_L) (st : List Value) (h : mx_H) (c n : Nat) : mx_G r (t_Hs_count zz) 9 ls st h c n = (o_aload 1 0) r (mx_G r (t_Hs_count zz)) 9 ls st h c n := mx_G_eq (tm_Hs_count zz) r 9 ls st h c n
theorem st_Hs_count_10 (zz : Nat × Nat) (r : mx_T) (ls : mx_L) (st : List Value) (h : mx_H) (c n : Nat) : mx_G r (t_Hs_count zz) 10 ls st h c n = (o_get 0 7) r (mx_G r (t_Hs_count zz)) 10 ls st h c n := mx_G_eq (tm_Hs_count zz) r 10 ls st h c n
theorem st_Hs_count_13 (zz : Nat × Nat) (r : mx_T) (ls : mx_L) (st : List Value) (h : mx_H) (c n : Nat) : mx_G r (t_Hs_count zz) 13 ls st h c n = (o_iload 1 1) r (mx_G r (t_Hs_count zz)) 13 ls st h c n := mx_G_eq (tm_Hs_count zz) r 13 ls st h c n
theorem st_Hs_count_14 (zz : Nat × Nat) (r : mx_T) (ls : mx_L) (st : List Value) (h : mx_H) (c n : Nat) : mx_G r (t_Hs_count zz) 14 ls st h c n = (o_iald .int) r (mx_G r (t_Hs_count zz)) 14 ls st h c n := mx_G_eq (tm_Hs_count zz) r 14 ls st h c n
theorem st_Hs_count_15 (zz : Nat × Nat) (r : mx_T) (ls : mx_L) (st : List Value) (h : mx_H) (c n : Nat) : mx_G r (t_Hs_count zz) 15 ls st h c n = (o_goto 19) r (mx_G r (t_Hs_count zz)) 15 ls st h c n := mx_G_eq (tm_Hs_count zz) r 15 ls st h c n
theorem st_Hs_count_18 (zz : Nat × Nat) (r : mx_T) (ls : mx_L) (st : List Value) (h : mx_H) (c n : Nat) : mx_G r (t_Hs_count zz) 18 ls st h c n = (o_push 1 (.int (-1))) r (mx_G r (t_Hs_count zz)) 18 ls st h c n := mx_G_eq (tm_Hs_count zz) r 18 ls st h c n
theorem st_Hs_count_19 (zz : Nat × Nat) (r : mx_T) (ls : mx_L) (st : List Value) (h : mx_H) (c n : Nat) : mx_G r (t_Hs_count zz) 19 ls st h c n = (o_iret) r (mx_G r (t_Hs_count zz)) 19 ls st h c n := mx_G_eq (tm_Hs_count zz) r 19 ls st h c n
theorem d_Sc_place_0 : decode c_Sc_place 0 = .ok (.bipush 16, 2) := by decide +kernel
theorem d_Sc_place_2 : decode c_Sc_place 2 = .ok (.aload_n 0, 1) := by decide +kernel
theorem d_Sc_place_3 : decode c_Sc_place 3 = .ok (.getfield 18, 3) := by decide +kernel
theorem d_Sc_place_6 : decode c_Sc_place 6 = .ok (.imul, 1) := by decide +kernel
theorem d_Sc_place_7 : decode c_Sc_place 7 = .ok (.aload_n 0, 1) := by decide +kernel
theorem d_Sc_place_8 : decode c_Sc_place 8 = .ok (.getfield 22, 3) := by decide +kernel
theorem d_Sc_place_11 : decode c_Sc_place 11 = .ok (.iadd, 1) := by decide +kernel
theorem d_Sc_place_12 : decode c_Sc_place 12 = .ok (.aload_n 0, 1) := by decide +kernel
theorem d_Sc_place_13 : decode c_Sc_place 13 = .ok (.getfield 25, 3) := by decide +kernel
theorem d_Sc_place_16 : decode c_Sc_place 16 = .ok (.ifCond .eq 8, 3) := by decide +kernel
theorem d_Sc_place_19 : decode c_Sc_place 19 = .ok (.bipush 64, 2) := by decide +kernel
theorem d_Sc_place_21 : decode c_Sc_place 21 = .ok (.goto 4, 3) := by decide +kernel
theorem d_Sc_place_24 : decode c_Sc_place 24 = .ok (.iconst 0, 1) := by decide +kernel
theorem d_Sc_place_25 : decode c_Sc_place 25 = .ok (.iadd, 1) := by decide +kernel
theorem d_Sc_place_26 : decode c_Sc_place 26 = .ok (.ireturn, 1) := by decide +kernel
def t_Sc_place (zz : Nat × Nat) : List (Nat × mx_O) := [(0, o_push 2 (.int 16)),
  (2, o_aload 1 0),
  (3, o_get 7 1),
  (6, o_ii (fun x y => x * y)),
  (7, o_aload 1 0),
  (8, o_get 7 2),
  (11, o_ii (fun x y => x + y)),
  (12, o_aload 1 0),
  (13, o_get 7 3),
  (16, o_if 24 (fun x => x = 0)),
  (19, o_push 2 (.int 64)),
  (21, o_goto 25),
  (24, o_push 1 (.int 0)),
  (25, o_ii (fun x y => x + y)),
  (26, o_iret)]
set_option maxRecDepth 100000 in
theorem tm_Sc_place (zz : Nat × Nat) : mx_All (fun _ o => mx_Mono o) (t_Sc_place zz) := by
  refine mx_all_cons (mo_st) ?_
  refine mx_all_cons (mo_st) ?_
  refine mx_all_cons (mo_st) ?_
  refine mx_all_cons (mo_st) ?_
  refine mx_all_cons (mo_st) ?_
  refine mx_all_cons (mo_st) ?_
  refine mx_all_cons (mo_st) ?_
  refine mx_all_cons (mo_st) ?_
  refine mx_all_cons (mo_st) ?_
  refine mx_all_cons (mo_br) ?_
  refine mx_all_cons (mo_st) ?_
  refine mx_all_cons (mo_st) ?_
  refine mx_all_cons (mo_st) ?_
  refine mx_all_cons (mo_st) ?_
  refine mx_all_cons (mo_ret) ?_
  exact mx_all_nil
def S_Sc_place (zz : Nat × Nat) : mx_Sp := mx_S 1 0 0 (t_Sc_place zz)
theorem sm_Sc_place (zz : Nat × Nat) : mx_SMono (S_Sc_place zz) := mx_S_mono (tm_Sc_place zz)
abbrev rm_Sc_place : Room := { frames := 0, cells := 0, slots := 0, locals := 0 }
set_option maxHeartbeats 4000000 in
set_option maxRecDepth 100000 in
theorem m_Sc_place (l : Launch) (zz : Nat × Nat) : mx_Met l y_Sc_place (wsOf y_Sc_place c_Sc_place 1 (some .int)) rm_Sc_place wcl (mx_Z zz) 0 0 (S_Sc_place zz) := by
  refine mx_met (cc := c_Sc_place) (ret := (some .int)) (by decide) rfl ?_
  intro p e s m args below meth c D A Post X hz hr hlk hnm
  have hm : ∀ w ∈ mw, w.before args s = true := fun w h => X.1.2.2.2.2 w (List.mem_cons_of_mem _ h)
  refine mx_all_cons (ok_push (fun kk => lv_bipush X.1.1 X.1.2.1 d_Sc_place_0 (by decide) kk)) ?_
  refine mx_all_cons (ok_aload (fun hl kk => lv_aload_n X.1.1 X.1.2.1 d_Sc_place_2 rfl hl kk) (fun hl kk => lv_aload_nN X.1.1 X.1.2.1 d_Sc_place_2 rfl hl kk)) ?_
  refine mx_all_cons (ok_get (C := "HeaderSchedule$Schedule") (T := T_Sc) (N := 8) X (mw_up in_Sc) rfl 1 (by decide) (hm _ w110) (fun _ h9 => h9) d_Sc_place_3) ?_
  refine mx_all_cons (ok_ii (fun kk => lv_imul X.1.1 X.1.2.1 d_Sc_place_6 kk)) ?_
  refine mx_all_cons (ok_aload (fun hl kk => lv_aload_n X.1.1 X.1.2.1 d_Sc_place_7 rfl hl kk) (fun hl kk => lv_aload_nN X.1.1 X.1.2.1 d_Sc_place_7 rfl hl kk)) ?_
  refine mx_all_cons (ok_get (C := "HeaderSchedule$Schedule") (T := T_Sc) (N := 8) X (mw_up in_Sc) rfl 2 (by decide) (hm _ w111) (fun _ h9 => h9) d_Sc_place_8) ?_
  refine mx_all_cons (ok_ii (fun kk => lv_iadd X.1.1 X.1.2.1 d_Sc_place_11 kk)) ?_
  refine mx_all_cons (ok_aload (fun hl kk => lv_aload_n X.1.1 X.1.2.1 d_Sc_place_12 rfl hl kk) (fun hl kk => lv_aload_nN X.1.1 X.1.2.1 d_Sc_place_12 rfl hl kk)) ?_
  refine mx_all_cons (ok_get (C := "HeaderSchedule$Schedule") (T := T_Sc) (N := 8) X (mw_up in_Sc) rfl 3 (by decide) (hm _ w112) (fun _ h9 => h9) d_Sc_place_13) ?_
  refine mx_all_cons (ok_if (fun kt kf => lv_if_eq X.1.1 X.1.2.1 d_Sc_place_16 (by decide) kt kf)) ?_
  refine mx_all_cons (ok_push (fun kk => lv_bipush X.1.1 X.1.2.1 d_Sc_place_19 (by decide) kk)) ?_
  refine mx_all_cons (ok_goto X d_Sc_place_21 (by decide)) ?_
  refine mx_all_cons (ok_push (fun kk => lv_iconst X.1.1 X.1.2.1 d_Sc_place_24 (by decide) kk)) ?_
  refine mx_all_cons (ok_ii (fun kk => lv_iadd X.1.1 X.1.2.1 d_Sc_place_25 kk)) ?_
  refine mx_all_cons (ok_iret X hr hlk d_Sc_place_26) ?_
  exact mx_all_nil
theorem st_Sc_place_0 (zz : Nat × Nat) (r : mx_T) (ls : mx_L) (st : List Value) (h : mx_H) (c n : Nat) : mx_G r (t_Sc_place zz) 0 ls st h c n = (o_push 2 (.int 16)) r (mx_G r (t_Sc_place zz)) 0 ls st h c n := mx_G_eq (tm_Sc_place zz) r 0 ls st h c n
theorem st_Sc_place_2 (zz : Nat × Nat) (r : mx_T) (ls : mx_L) (st : List Value) (h : mx_H) (c n : Nat) : mx_G r (t_Sc_place zz) 2 ls st h c n = (o_aload 1 0) r (mx_G r (t_Sc_place zz)) 2 ls st h c n := mx_G_eq (tm_Sc_place zz) r 2 ls st h c n
theorem st_Sc_place_3 (zz : Nat × Nat) (r : mx_T) (ls : mx_L) (st : List Value) (h : mx_H) (c n : Nat) : mx_G r (t_Sc_place zz) 3 ls st h c n = (o_get 7 1) r (mx_G r (t_Sc_place zz)) 3 ls st h c n := mx_G_eq (tm_Sc_place zz) r 3 ls st h c n
theorem st_Sc_place_6 (zz : Nat × Nat) (r : mx_T) (ls : mx_L) (st : List Value) (h : mx_H) (c n : Nat) : mx_G r (t_Sc_place zz) 6 ls st h c n = (o_ii (fun x y => x * y)) r (mx_G r (t_Sc_place zz)) 6 ls st h c n := mx_G_eq (tm_Sc_place zz) r 6 ls st h c n
theorem st_Sc_place_7 (zz : Nat × Nat) (r : mx_T) (ls : mx_L) (st : List Value) (h : mx_H) (c n : Nat) : mx_G r (t_Sc_place zz) 7 ls st h c n = (o_aload 1 0) r (mx_G r (t_Sc_place zz)) 7 ls st h c n := mx_G_eq (tm_Sc_place zz) r 7 ls st h c n
theorem st_Sc_place_8 (zz : Nat × Nat) (r : mx_T) (ls : mx_L) (st : List Value) (h : mx_H) (c n : Nat) : mx_G r (t_Sc_place zz) 8 ls st h c n = (o_get 7 2) r (mx_G r (t_Sc_place zz)) 8 ls st h c n := mx_G_eq (tm_Sc_place zz) r 8 ls st h c n
theorem st_Sc_place_11 (zz : Nat × Nat) (r : mx_T) (ls : mx_L) (st : List Value) (h : mx_H) (c n : Nat) : mx_G r (t_Sc_place zz) 11 ls st h c n = (o_ii (fun x y => x + y)) r (mx_G r (t_Sc_place zz)) 11 ls st h c n := mx_G_eq (tm_Sc_place zz) r 11 ls st h c n
theorem st_Sc_place_12 (zz : Nat × Nat) (r : mx_T) (ls : mx_L) (st : List Value) (h : mx_H) (c n : Nat) : mx_G r (t_Sc_place zz) 12 ls st h c n = (o_aload 1 0) r (mx_G r (t_Sc_place zz)) 12 ls st h c n := mx_G_eq (tm_Sc_place zz) r 12 ls st h c n
theorem st_Sc_place_13 (zz : Nat × Nat) (r : mx_T) (ls : mx_L) (st : List Value) (h : mx_H) (c n : Nat) : mx_G r (t_Sc_place zz) 13 ls st h c n = (o_get 7 3) r (mx_G r (t_Sc_place zz)) 13 ls st h c n := mx_G_eq (tm_Sc_place zz) r 13 ls st h c n
theorem st_Sc_place_16 (zz : Nat × Nat) (r : mx_T) (ls : mx_L) (st : List Value) (h : mx_H) (c n : Nat) : mx_G r (t_Sc_place zz) 16 ls st h c n = (o_if 24 (fun x => x = 0)) r (mx_G r (t_Sc_place zz)) 16 ls st h c n := mx_G_eq (tm_Sc_place zz) r 16 ls st h c n
theorem st_Sc_place_19 (zz : Nat × Nat) (r : mx_T) (ls : mx_L) (st : List Value) (h : mx_H) (c n : Nat) : mx_G r (t_Sc_place zz) 19 ls st h c n = (o_push 2 (.int 64)) r (mx_G r (t_Sc_place zz)) 19 ls st h c n := mx_G_eq (tm_Sc_place zz) r 19 ls st h c n
theorem st_Sc_place_21 (zz : Nat × Nat) (r : mx_T) (ls : mx_L) (st : List Value) (h : mx_H) (c n : Nat) : mx_G r (t_Sc_place zz) 21 ls st h c n = (o_goto 25) r (mx_G r (t_Sc_place zz)) 21 ls st h c n := mx_G_eq (tm_Sc_place zz) r 21 ls st h c n
theorem st_Sc_place_24 (zz : Nat × Nat) (r : mx_T) (ls : mx_L) (st : List Value) (h : mx_H) (c n : Nat) : mx_G r (t_Sc_place zz) 24 ls st h c n = (o_push 1 (.int 0)) r (mx_G r (t_Sc_place zz)) 24 ls st h c n := mx_G_eq (tm_Sc_place zz) r 24 ls st h c n
theorem st_Sc_place_25 (zz : Nat × Nat) (r : mx_T) (ls : mx_L) (st : List Value) (h : mx_H) (c n : Nat) : mx_G r (t_Sc_place zz) 25 ls st h c n = (o_ii (fun x y => x + y)) r (mx_G r (t_Sc_place zz)) 25 ls st h c n := mx_G_eq (tm_Sc_place zz) r 25 ls st h c n
theorem st_Sc_place_26 (zz : Nat × Nat) (r : mx_T) (ls : mx_L) (st : List Value) (h : mx_H) (c n : Nat) : mx_G r (t_Sc_place zz) 26 ls st h c n = (o_iret) r (mx_G r (t_Sc_place zz)) 26 ls st h c n := mx_G_eq (tm_Sc_place zz) r 26 ls st h c n
theorem d_Hs_position_0 : decode c_Hs_position 0 = .ok (.aload_n 0, 1) := by decide +kernel
theorem d_Hs_position_1 : decode c_Hs_position 1 = .ok (.getfield 47, 3) := by decide +kernel
theorem d_Hs_position_4 : decode c_Hs_position 4 = .ok (.ifCond .eq 13, 3) := by decide +kernel
theorem d_Hs_position_7 : decode c_Hs_position 7 = .ok (.aload_n 0, 1) := by decide +kernel
theorem d_Hs_position_8 : decode c_Hs_position 8 = .ok (.getfield 32, 3) := by decide +kernel
theorem d_Hs_position_11 : decode c_Hs_position 11 = .ok (.invokevirtual 210, 3) := by decide +kernel
theorem d_Hs_position_14 : decode c_Hs_position 14 = .ok (.goto 4, 3) := by decide +kernel
theorem d_Hs_position_17 : decode c_Hs_position 17 = .ok (.iconst (-1), 1) := by decide +kernel
theorem d_Hs_position_18 : decode c_Hs_position 18 = .ok (.ireturn, 1) := by decide +kernel
def t_Hs_position (zz : Nat × Nat) : List (Nat × mx_O) := [(0, o_aload 1 0),
  (1, o_get 0 8),
  (4, o_if 17 (fun x => x = 0)),
  (7, o_aload 1 0),
  (8, o_get 0 5),
  (11, o_call 0 0 1 0 0 (mx_rv 7) (S_Sc_place zz)),
  (14, o_goto 18),
  (17, o_push 1 (.int (-1))),
  (18, o_iret)]
set_option maxRecDepth 100000 in
theorem tm_Hs_position (zz : Nat × Nat) : mx_All (fun _ o => mx_Mono o) (t_Hs_position zz) := by
  refine mx_all_cons (mo_st) ?_
  refine mx_all_cons (mo_st) ?_
  refine mx_all_cons (mo_br) ?_
  refine mx_all_cons (mo_st) ?_
  refine mx_all_cons (mo_st) ?_
  refine mx_all_cons (mo_call (sm_Sc_place zz)) ?_
  refine mx_all_cons (mo_st) ?_
  refine mx_all_cons (mo_st) ?_
  refine mx_all_cons (mo_ret) ?_
  exact mx_all_nil
def S_Hs_position (zz : Nat × Nat) : mx_Sp := mx_S 1 0 0 (t_Hs_position zz)
theorem sm_Hs_position (zz : Nat × Nat) : mx_SMono (S_Hs_position zz) := mx_S_mono (tm_Hs_position zz)
abbrev rm_Hs_position : Room := { frames := 1, cells := 0, slots := 0, locals := 20 }
set_option maxHeartbeats 4000000 in
set_option maxRecDepth 100000 in
theorem m_Hs_position (l : Launch) (zz : Nat × Nat) : mx_Met l y_Hs_position (wsOf y_Hs_position c_Hs_position 1 (some .int)) rm_Hs_position wcl (mx_Z zz) 0 0 (S_Hs_position zz) := by
  refine mx_met (cc := c_Hs_position) (ret := (some .int)) (by decide) rfl ?_
  intro p e s m args below meth c D A Post X hz hr hlk hnm
  have hm : ∀ w ∈ mw, w.before args s = true := fun w h => X.1.2.2.2.2 w (List.mem_cons_of_mem _ h)
  refine mx_all_cons (ok_aload (fun hl kk => lv_aload_n X.1.1 X.1.2.1 d_Hs_position_0 rfl hl kk) (fun hl kk => lv_aload_nN X.1.1 X.1.2.1 d_Hs_position_0 rfl hl kk)) ?_
  refine mx_all_cons (ok_get (C := "HeaderSchedule") (T := T_Hs) (N := 11) X (mw_up in_Hs) rfl 8 (by decide) (hm _ w166) (fun _ h9 => h9) d_Hs_position_1) ?_
  refine mx_all_cons (ok_if (fun kt kf => lv_if_eq X.1.1 X.1.2.1 d_Hs_position_4 (by decide) kt kf)) ?_
  refine mx_all_cons (ok_aload (fun hl kk => lv_aload_n X.1.1 X.1.2.1 d_Hs_position_7 rfl hl kk) (fun hl kk => lv_aload_nN X.1.1 X.1.2.1 d_Hs_position_7 rfl hl kk)) ?_
  refine mx_all_cons (ok_get (C := "HeaderSchedule") (T := T_Hs) (N := 11) X (mw_up in_Hs) rfl 5 (by decide) (hm _ w163) (fun _ h9 => h9) d_Hs_position_8) ?_
  refine mx_all_cons (ok_callV (C := "HeaderSchedule$Schedule") (T := T_Sc) (N := 8) X (mx_Zok_Z zz) hz ⟨(Nat.le_of_ble_eq_true rfl), (Nat.le_of_ble_eq_true rfl)⟩ (m_Sc_place l zz) ⟨mx_cwB 0 hm w662 w659 w37 rfl rfl (by decide +kernel) ⟨(Nat.le_of_ble_eq_true rfl), (Nat.le_of_ble_eq_true rfl)⟩, (hm _ w660), hm _ w661⟩ rfl d_Hs_position_11) ?_
  refine mx_all_cons (ok_goto X d_Hs_position_14 (by decide)) ?_
  refine mx_all_cons (ok_push (fun kk => lv_iconst X.1.1 X.1.2.1 d_Hs_position_17 (by decide) kk)) ?_
  refine mx_all_cons (ok_iret X hr hlk d_Hs_position_18) ?_
  exact mx_all_nil
theorem st_Hs_position_0 (zz : Nat × Nat) (r : mx_T) (ls : mx_L) (st : List Value) (h : mx_H) (c n : Nat) : mx_G r (t_Hs_position zz) 0 ls st h c n = (o_aload 1 0) r (mx_G r (t_Hs_position zz)) 0 ls st h c n := mx_G_eq (tm_Hs_position zz) r 0 ls st h c n
theorem st_Hs_position_1 (zz : Nat × Nat) (r : mx_T) (ls : mx_L) (st : List Value) (h : mx_H) (c n : Nat) : mx_G r (t_Hs_position zz) 1 ls st h c n = (o_get 0 8) r (mx_G r (t_Hs_position zz)) 1 ls st h c n := mx_G_eq (tm_Hs_position zz) r 1 ls st h c n
theorem st_Hs_position_4 (zz : Nat × Nat) (r : mx_T) (ls : mx_L) (st : List Value) (h : mx_H) (c n : Nat) : mx_G r (t_Hs_position zz) 4 ls st h c n = (o_if 17 (fun x => x = 0)) r (mx_G r (t_Hs_position zz)) 4 ls st h c n := mx_G_eq (tm_Hs_position zz) r 4 ls st h c n
theorem st_Hs_position_7 (zz : Nat × Nat) (r : mx_T) (ls : mx_L) (st : List Value) (h : mx_H) (c n : Nat) : mx_G r (t_Hs_position zz) 7 ls st h c n = (o_aload 1 0) r (mx_G r (t_Hs_position zz)) 7 ls st h c n := mx_G_eq (tm_Hs_position zz) r 7 ls st h c n
theorem st_Hs_position_8 (zz : Nat × Nat) (r : mx_T) (ls : mx_L) (st : List Value) (h : mx_H) (c n : Nat) : mx_G r (t_Hs_position zz) 8 ls st h c n = (o_get 0 5) r (mx_G r (t_Hs_position zz)) 8 ls st h c n := mx_G_eq (tm_Hs_position zz) r 8 ls st h c n
theorem st_Hs_position_11 (zz : Nat × Nat) (r : mx_T) (ls : mx_L) (st : List Value) (h : mx_H) (c n : Nat) : mx_G r (t_Hs_position zz) 11 ls st h c n = (o_call 0 0 1 0 0 (mx_rv 7) (S_Sc_place zz)) r (mx_G r (t_Hs_position zz)) 11 ls st h c n := mx_G_eq (tm_Hs_position zz) r 11 ls st h c n
theorem st_Hs_position_14 (zz : Nat × Nat) (r : mx_T) (ls : mx_L) (st : List Value) (h : mx_H) (c n : Nat) : mx_G r (t_Hs_position zz) 14 ls st h c n = (o_goto 18) r (mx_G r (t_Hs_position zz)) 14 ls st h c n := mx_G_eq (tm_Hs_position zz) r 14 ls st h c n
theorem st_Hs_position_17 (zz : Nat × Nat) (r : mx_T) (ls : mx_L) (st : List Value) (h : mx_H) (c n : Nat) : mx_G r (t_Hs_position zz) 17 ls st h c n = (o_push 1 (.int (-1))) r (mx_G r (t_Hs_position zz)) 17 ls st h c n := mx_G_eq (tm_Hs_position zz) r 17 ls st h c n
theorem st_Hs_position_18 (zz : Nat × Nat) (r : mx_T) (ls : mx_L) (st : List Value) (h : mx_H) (c n : Nat) : mx_G r (t_Hs_position zz) 18 ls st h c n = (o_iret) r (mx_G r (t_Hs_position zz)) 18 ls st h c n := mx_G_eq (tm_Hs_position zz) r 18 ls st h c n
theorem d_Hs_sleep_0 : decode c_Hs_sleep 0 = .ok (.aload_n 0, 1) := by decide +kernel
theorem d_Hs_sleep_1 : decode c_Hs_sleep 1 = .ok (.getfield 47, 3) := by decide +kernel
theorem d_Hs_sleep_4 : decode c_Hs_sleep 4 = .ok (.ifCond .eq 10, 3) := by decide +kernel
theorem d_Hs_sleep_7 : decode c_Hs_sleep 7 = .ok (.aload_n 0, 1) := by decide +kernel
theorem d_Hs_sleep_8 : decode c_Hs_sleep 8 = .ok (.getfield 51, 3) := by decide +kernel
theorem d_Hs_sleep_11 : decode c_Hs_sleep 11 = .ok (.ifCond .eq 5, 3) := by decide +kernel
theorem d_Hs_sleep_14 : decode c_Hs_sleep 14 = .ok (.iconst 0, 1) := by decide +kernel
theorem d_Hs_sleep_15 : decode c_Hs_sleep 15 = .ok (.ireturn, 1) := by decide +kernel
theorem d_Hs_sleep_16 : decode c_Hs_sleep 16 = .ok (.aload_n 0, 1) := by decide +kernel
theorem d_Hs_sleep_17 : decode c_Hs_sleep 17 = .ok (.iconst 1, 1) := by decide +kernel
theorem d_Hs_sleep_18 : decode c_Hs_sleep 18 = .ok (.putfield 51, 3) := by decide +kernel
theorem d_Hs_sleep_21 : decode c_Hs_sleep 21 = .ok (.aload_n 0, 1) := by decide +kernel
theorem d_Hs_sleep_22 : decode c_Hs_sleep 22 = .ok (.iconst 0, 1) := by decide +kernel
theorem d_Hs_sleep_23 : decode c_Hs_sleep 23 = .ok (.putfield 54, 3) := by decide +kernel
theorem d_Hs_sleep_26 : decode c_Hs_sleep 26 = .ok (.iconst 1, 1) := by decide +kernel
theorem d_Hs_sleep_27 : decode c_Hs_sleep 27 = .ok (.ireturn, 1) := by decide +kernel
def t_Hs_sleep (zz : Nat × Nat) : List (Nat × mx_O) := [(0, o_aload 1 0),
  (1, o_get 0 8),
  (4, o_if 14 (fun x => x = 0)),
  (7, o_aload 1 0),
  (8, o_get 0 9),
  (11, o_if 16 (fun x => x = 0)),
  (14, o_push 1 (.int 0)),
  (15, o_zret),
  (16, o_aload 1 0),
  (17, o_push 1 (.int 1)),
  (18, o_put 0 9 mx_vZ),
  (21, o_aload 1 0),
  (22, o_push 1 (.int 0)),
  (23, o_put 0 10 mx_vI),
  (26, o_push 1 (.int 1)),
  (27, o_zret)]
set_option maxRecDepth 100000 in
theorem tm_Hs_sleep (zz : Nat × Nat) : mx_All (fun _ o => mx_Mono o) (t_Hs_sleep zz) := by
  refine mx_all_cons (mo_st) ?_
  refine mx_all_cons (mo_st) ?_
  refine mx_all_cons (mo_br) ?_
  refine mx_all_cons (mo_st) ?_
  refine mx_all_cons (mo_st) ?_
  refine mx_all_cons (mo_br) ?_
  refine mx_all_cons (mo_st) ?_
  refine mx_all_cons (mo_zret) ?_
  refine mx_all_cons (mo_st) ?_
  refine mx_all_cons (mo_st) ?_
  refine mx_all_cons (mo_sc) ?_
  refine mx_all_cons (mo_st) ?_
  refine mx_all_cons (mo_st) ?_
  refine mx_all_cons (mo_sc) ?_
  refine mx_all_cons (mo_st) ?_
  refine mx_all_cons (mo_zret) ?_
  exact mx_all_nil
def S_Hs_sleep (zz : Nat × Nat) : mx_Sp := mx_S 1 0 0 (t_Hs_sleep zz)
theorem sm_Hs_sleep (zz : Nat × Nat) : mx_SMono (S_Hs_sleep zz) := mx_S_mono (tm_Hs_sleep zz)
abbrev rm_Hs_sleep : Room := { frames := 0, cells := 0, slots := 0, locals := 0 }
set_option maxHeartbeats 4000000 in
set_option maxRecDepth 100000 in
theorem m_Hs_sleep (l : Launch) (zz : Nat × Nat) : mx_Met l y_Hs_sleep (wsOf y_Hs_sleep c_Hs_sleep 1 (some .boolean)) rm_Hs_sleep wcl (mx_Z zz) 0 0 (S_Hs_sleep zz) := by
  refine mx_met (cc := c_Hs_sleep) (ret := (some .boolean)) (by decide) rfl ?_
  intro p e s m args below meth c D A Post X hz hr hlk hnm
  have hm : ∀ w ∈ mw, w.before args s = true := fun w h => X.1.2.2.2.2 w (List.mem_cons_of_mem _ h)
  refine mx_all_cons (ok_aload (fun hl kk => lv_aload_n X.1.1 X.1.2.1 d_Hs_sleep_0 rfl hl kk) (fun hl kk => lv_aload_nN X.1.1 X.1.2.1 d_Hs_sleep_0 rfl hl kk)) ?_
  refine mx_all_cons (ok_get (C := "HeaderSchedule") (T := T_Hs) (N := 11) X (mw_up in_Hs) rfl 8 (by decide) (hm _ w166) (fun _ h9 => h9) d_Hs_sleep_1) ?_
  refine mx_all_cons (ok_if (fun kt kf => lv_if_eq X.1.1 X.1.2.1 d_Hs_sleep_4 (by decide) kt kf)) ?_
  refine mx_all_cons (ok_aload (fun hl kk => lv_aload_n X.1.1 X.1.2.1 d_Hs_sleep_7 rfl hl kk) (fun hl kk => lv_aload_nN X.1.1 X.1.2.1 d_Hs_sleep_7 rfl hl kk)) ?_
  refine mx_all_cons (ok_get (C := "HeaderSchedule") (T := T_Hs) (N := 11) X (mw_up in_Hs) rfl 9 (by decide) (hm _ w167) (fun _ h9 => h9) d_Hs_sleep_8) ?_
  refine mx_all_cons (ok_if (fun kt kf => lv_if_eq X.1.1 X.1.2.1 d_Hs_sleep_11 (by decide) kt kf)) ?_
  refine mx_all_cons (ok_push (fun kk => lv_iconst X.1.1 X.1.2.1 d_Hs_sleep_14 (by decide) kk)) ?_
  refine mx_all_cons (ok_zret X hr hlk d_Hs_sleep_15) ?_
  refine mx_all_cons (ok_aload (fun hl kk => lv_aload_n X.1.1 X.1.2.1 d_Hs_sleep_16 rfl hl kk) (fun hl kk => lv_aload_nN X.1.1 X.1.2.1 d_Hs_sleep_16 rfl hl kk)) ?_
  refine mx_all_cons (ok_push (fun kk => lv_iconst X.1.1 X.1.2.1 d_Hs_sleep_17 (by decide) kk)) ?_
  refine mx_all_cons (ok_put (C := "HeaderSchedule") (T := T_Hs) (N := 11) X (mw_up in_Hs) ty_Hs tyok_Hs nm_Hs rfl 9 (by decide) (hm _ w167) (fun _ h9 => h9) rfl (tyok_Hs 9 (by decide)) mx_vZ_ok d_Hs_sleep_18) ?_
  refine mx_all_cons (ok_aload (fun hl kk => lv_aload_n X.1.1 X.1.2.1 d_Hs_sleep_21 rfl hl kk) (fun hl kk => lv_aload_nN X.1.1 X.1.2.1 d_Hs_sleep_21 rfl hl kk)) ?_
  refine mx_all_cons (ok_push (fun kk => lv_iconst X.1.1 X.1.2.1 d_Hs_sleep_22 (by decide) kk)) ?_
  refine mx_all_cons (ok_put (C := "HeaderSchedule") (T := T_Hs) (N := 11) X (mw_up in_Hs) ty_Hs tyok_Hs nm_Hs rfl 10 (by decide) (hm _ w168) (fun _ h9 => h9) rfl (tyok_Hs 10 (by decide)) mx_vI_ok d_Hs_sleep_23) ?_
  refine mx_all_cons (ok_push (fun kk => lv_iconst X.1.1 X.1.2.1 d_Hs_sleep_26 (by decide) kk)) ?_
  refine mx_all_cons (ok_zret X hr hlk d_Hs_sleep_27) ?_
  exact mx_all_nil
theorem st_Hs_sleep_0 (zz : Nat × Nat) (r : mx_T) (ls : mx_L) (st : List Value) (h : mx_H) (c n : Nat) : mx_G r (t_Hs_sleep zz) 0 ls st h c n = (o_aload 1 0) r (mx_G r (t_Hs_sleep zz)) 0 ls st h c n := mx_G_eq (tm_Hs_sleep zz) r 0 ls st h c n
theorem st_Hs_sleep_1 (zz : Nat × Nat) (r : mx_T) (ls : mx_L) (st : List Value) (h : mx_H) (c n : Nat) : mx_G r (t_Hs_sleep zz) 1 ls st h c n = (o_get 0 8) r (mx_G r (t_Hs_sleep zz)) 1 ls st h c n := mx_G_eq (tm_Hs_sleep zz) r 1 ls st h c n
theorem st_Hs_sleep_4 (zz : Nat × Nat) (r : mx_T) (ls : mx_L) (st : List Value) (h : mx_H) (c n : Nat) : mx_G r (t_Hs_sleep zz) 4 ls st h c n = (o_if 14 (fun x => x = 0)) r (mx_G r (t_Hs_sleep zz)) 4 ls st h c n := mx_G_eq (tm_Hs_sleep zz) r 4 ls st h c n
theorem st_Hs_sleep_7 (zz : Nat × Nat) (r : mx_T) (ls : mx_L) (st : List Value) (h : mx_H) (c n : Nat) : mx_G r (t_Hs_sleep zz) 7 ls st h c n = (o_aload 1 0) r (mx_G r (t_Hs_sleep zz)) 7 ls st h c n := mx_G_eq (tm_Hs_sleep zz) r 7 ls st h c n
theorem st_Hs_sleep_8 (zz : Nat × Nat) (r : mx_T) (ls : mx_L) (st : List Value) (h : mx_H) (c n : Nat) : mx_G r (t_Hs_sleep zz) 8 ls st h c n = (o_get 0 9) r (mx_G r (t_Hs_sleep zz)) 8 ls st h c n := mx_G_eq (tm_Hs_sleep zz) r 8 ls st h c n
theorem st_Hs_sleep_11 (zz : Nat × Nat) (r : mx_T) (ls : mx_L) (st : List Value) (h : mx_H) (c n : Nat) : mx_G r (t_Hs_sleep zz) 11 ls st h c n = (o_if 16 (fun x => x = 0)) r (mx_G r (t_Hs_sleep zz)) 11 ls st h c n := mx_G_eq (tm_Hs_sleep zz) r 11 ls st h c n
theorem st_Hs_sleep_14 (zz : Nat × Nat) (r : mx_T) (ls : mx_L) (st : List Value) (h : mx_H) (c n : Nat) : mx_G r (t_Hs_sleep zz) 14 ls st h c n = (o_push 1 (.int 0)) r (mx_G r (t_Hs_sleep zz)) 14 ls st h c n := mx_G_eq (tm_Hs_sleep zz) r 14 ls st h c n
theorem st_Hs_sleep_15 (zz : Nat × Nat) (r : mx_T) (ls : mx_L) (st : List Value) (h : mx_H) (c n : Nat) : mx_G r (t_Hs_sleep zz) 15 ls st h c n = (o_zret) r (mx_G r (t_Hs_sleep zz)) 15 ls st h c n := mx_G_eq (tm_Hs_sleep zz) r 15 ls st h c n
theorem st_Hs_sleep_16 (zz : Nat × Nat) (r : mx_T) (ls : mx_L) (st : List Value) (h : mx_H) (c n : Nat) : mx_G r (t_Hs_sleep zz) 16 ls st h c n = (o_aload 1 0) r (mx_G r (t_Hs_sleep zz)) 16 ls st h c n := mx_G_eq (tm_Hs_sleep zz) r 16 ls st h c n
theorem st_Hs_sleep_17 (zz : Nat × Nat) (r : mx_T) (ls : mx_L) (st : List Value) (h : mx_H) (c n : Nat) : mx_G r (t_Hs_sleep zz) 17 ls st h c n = (o_push 1 (.int 1)) r (mx_G r (t_Hs_sleep zz)) 17 ls st h c n := mx_G_eq (tm_Hs_sleep zz) r 17 ls st h c n
theorem st_Hs_sleep_18 (zz : Nat × Nat) (r : mx_T) (ls : mx_L) (st : List Value) (h : mx_H) (c n : Nat) : mx_G r (t_Hs_sleep zz) 18 ls st h c n = (o_put 0 9 mx_vZ) r (mx_G r (t_Hs_sleep zz)) 18 ls st h c n := mx_G_eq (tm_Hs_sleep zz) r 18 ls st h c n
theorem st_Hs_sleep_21 (zz : Nat × Nat) (r : mx_T) (ls : mx_L) (st : List Value) (h : mx_H) (c n : Nat) : mx_G r (t_Hs_sleep zz) 21 ls st h c n = (o_aload 1 0) r (mx_G r (t_Hs_sleep zz)) 21 ls st h c n := mx_G_eq (tm_Hs_sleep zz) r 21 ls st h c n
theorem st_Hs_sleep_22 (zz : Nat × Nat) (r : mx_T) (ls : mx_L) (st : List Value) (h : mx_H) (c n : Nat) : mx_G r (t_Hs_sleep zz) 22 ls st h c n = (o_push 1 (.int 0)) r (mx_G r (t_Hs_sleep zz)) 22 ls st h c n := mx_G_eq (tm_Hs_sleep zz) r 22 ls st h c n
theorem st_Hs_sleep_23 (zz : Nat × Nat) (r : mx_T) (ls : mx_L) (st : List Value) (h : mx_H) (c n : Nat) : mx_G r (t_Hs_sleep zz) 23 ls st h c n = (o_put 0 10 mx_vI) r (mx_G r (t_Hs_sleep zz)) 23 ls st h c n := mx_G_eq (tm_Hs_sleep zz) r 23 ls st h c n
theorem st_Hs_sleep_26 (zz : Nat × Nat) (r : mx_T) (ls : mx_L) (st : List Value) (h : mx_H) (c n : Nat) : mx_G r (t_Hs_sleep zz) 26 ls st h c n = (o_push 1 (.int 1)) r (mx_G r (t_Hs_sleep zz)) 26 ls st h c n := mx_G_eq (tm_Hs_sleep zz) r 26 ls st h c n
theorem st_Hs_sleep_27 (zz : Nat × Nat) (r : mx_T) (ls : mx_L) (st : List Value) (h : mx_H) (c n : Nat) : mx_G r (t_Hs_sleep zz) 27 ls st h c n = (o_zret) r (mx_G r (t_Hs_sleep zz)) 27 ls st h c n := mx_G_eq (tm_Hs_sleep zz) r 27 ls st h c n
theorem d_Hs_wake_0 : decode c_Hs_wake 0 = .ok (.aload_n 0, 1) := by decide +kernel
theorem d_Hs_wake_1 : decode c_Hs_wake 1 = .ok (.getfield 51, 3) := by decide +kernel
theorem d_Hs_wake_4 : decode c_Hs_wake 4 = .ok (.ifCond .ne 5, 3) := by decide +kernel
theorem d_Hs_wake_7 : decode c_Hs_wake 7 = .ok (.iconst 0, 1) := by decide +kernel
theorem d_Hs_wake_8 : decode c_Hs_wake 8 = .ok (.ireturn, 1) := by decide +kernel
theorem d_Hs_wake_9 : decode c_Hs_wake 9 = .ok (.aload_n 0, 1) := by decide +kernel
theorem d_Hs_wake_10 : decode c_Hs_wake 10 = .ok (.iconst 0, 1) := by decide +kernel
theorem d_Hs_wake_11 : decode c_Hs_wake 11 = .ok (.putfield 51, 3) := by decide +kernel
theorem d_Hs_wake_14 : decode c_Hs_wake 14 = .ok (.iconst 1, 1) := by decide +kernel
theorem d_Hs_wake_15 : decode c_Hs_wake 15 = .ok (.ireturn, 1) := by decide +kernel
def t_Hs_wake (zz : Nat × Nat) : List (Nat × mx_O) := [(0, o_aload 1 0),
  (1, o_get 0 9),
  (4, o_if 9 (fun x => ¬ x = 0)),
  (7, o_push 1 (.int 0)),
  (8, o_zret),
  (9, o_aload 1 0),
  (10, o_push 1 (.int 0)),
  (11, o_put 0 9 mx_vZ),
  (14, o_push 1 (.int 1)),
  (15, o_zret)]
set_option maxRecDepth 100000 in
theorem tm_Hs_wake (zz : Nat × Nat) : mx_All (fun _ o => mx_Mono o) (t_Hs_wake zz) := by
  refine mx_all_cons (mo_st) ?_
  refine mx_all_cons (mo_st) ?_
  refine mx_all_cons (mo_br) ?_
  refine mx_all_cons (mo_st) ?_
  refine mx_all_cons (mo_zret) ?_
  refine mx_all_cons (mo_st) ?_
  refine mx_all_cons (mo_st) ?_
  refine mx_all_cons (mo_sc) ?_
  refine mx_all_cons (mo_st) ?_
  refine mx_all_cons (mo_zret) ?_
  exact mx_all_nil
def S_Hs_wake (zz : Nat × Nat) : mx_Sp := mx_S 1 0 0 (t_Hs_wake zz)
theorem sm_Hs_wake (zz : Nat × Nat) : mx_SMono (S_Hs_wake zz) := mx_S_mono (tm_Hs_wake zz)
abbrev rm_Hs_wake : Room := { frames := 0, cells := 0, slots := 0, locals := 0 }
set_option maxHeartbeats 4000000 in
set_option maxRecDepth 100000 in
theorem m_Hs_wake (l : Launch) (zz : Nat × Nat) : mx_Met l y_Hs_wake (wsOf y_Hs_wake c_Hs_wake 1 (some .boolean)) rm_Hs_wake wcl (mx_Z zz) 0 0 (S_Hs_wake zz) := by
  refine mx_met (cc := c_Hs_wake) (ret := (some .boolean)) (by decide) rfl ?_
  intro p e s m args below meth c D A Post X hz hr hlk hnm
  have hm : ∀ w ∈ mw, w.before args s = true := fun w h => X.1.2.2.2.2 w (List.mem_cons_of_mem _ h)
  refine mx_all_cons (ok_aload (fun hl kk => lv_aload_n X.1.1 X.1.2.1 d_Hs_wake_0 rfl hl kk) (fun hl kk => lv_aload_nN X.1.1 X.1.2.1 d_Hs_wake_0 rfl hl kk)) ?_
  refine mx_all_cons (ok_get (C := "HeaderSchedule") (T := T_Hs) (N := 11) X (mw_up in_Hs) rfl 9 (by decide) (hm _ w167) (fun _ h9 => h9) d_Hs_wake_1) ?_
  refine mx_all_cons (ok_if (fun kt kf => lv_if_ne X.1.1 X.1.2.1 d_Hs_wake_4 (by decide) kt (fun z => kf (fun g => g z)))) ?_
  refine mx_all_cons (ok_push (fun kk => lv_iconst X.1.1 X.1.2.1 d_Hs_wake_7 (by decide) kk)) ?_
  refine mx_all_cons (ok_zret X hr hlk d_Hs_wake_8) ?_
  refine mx_all_cons (ok_aload (fun hl kk => lv_aload_n X.1.1 X.1.2.1 d_Hs_wake_9 rfl hl kk) (fun hl kk => lv_aload_nN X.1.1 X.1.2.1 d_Hs_wake_9 rfl hl kk)) ?_
  refine mx_all_cons (ok_push (fun kk => lv_iconst X.1.1 X.1.2.1 d_Hs_wake_10 (by decide) kk)) ?_
  refine mx_all_cons (ok_put (C := "HeaderSchedule") (T := T_Hs) (N := 11) X (mw_up in_Hs) ty_Hs tyok_Hs nm_Hs rfl 9 (by decide) (hm _ w167) (fun _ h9 => h9) rfl (tyok_Hs 9 (by decide)) mx_vZ_ok d_Hs_wake_11) ?_
  refine mx_all_cons (ok_push (fun kk => lv_iconst X.1.1 X.1.2.1 d_Hs_wake_14 (by decide) kk)) ?_
  refine mx_all_cons (ok_zret X hr hlk d_Hs_wake_15) ?_
  exact mx_all_nil
theorem st_Hs_wake_0 (zz : Nat × Nat) (r : mx_T) (ls : mx_L) (st : List Value) (h : mx_H) (c n : Nat) : mx_G r (t_Hs_wake zz) 0 ls st h c n = (o_aload 1 0) r (mx_G r (t_Hs_wake zz)) 0 ls st h c n := mx_G_eq (tm_Hs_wake zz) r 0 ls st h c n
theorem st_Hs_wake_1 (zz : Nat × Nat) (r : mx_T) (ls : mx_L) (st : List Value) (h : mx_H) (c n : Nat) : mx_G r (t_Hs_wake zz) 1 ls st h c n = (o_get 0 9) r (mx_G r (t_Hs_wake zz)) 1 ls st h c n := mx_G_eq (tm_Hs_wake zz) r 1 ls st h c n
theorem st_Hs_wake_4 (zz : Nat × Nat) (r : mx_T) (ls : mx_L) (st : List Value) (h : mx_H) (c n : Nat) : mx_G r (t_Hs_wake zz) 4 ls st h c n = (o_if 9 (fun x => ¬ x = 0)) r (mx_G r (t_Hs_wake zz)) 4 ls st h c n := mx_G_eq (tm_Hs_wake zz) r 4 ls st h c n
theorem st_Hs_wake_7 (zz : Nat × Nat) (r : mx_T) (ls : mx_L) (st : List Value) (h : mx_H) (c n : Nat) : mx_G r (t_Hs_wake zz) 7 ls st h c n = (o_push 1 (.int 0)) r (mx_G r (t_Hs_wake zz)) 7 ls st h c n := mx_G_eq (tm_Hs_wake zz) r 7 ls st h c n
theorem st_Hs_wake_8 (zz : Nat × Nat) (r : mx_T) (ls : mx_L) (st : List Value) (h : mx_H) (c n : Nat) : mx_G r (t_Hs_wake zz) 8 ls st h c n = (o_zret) r (mx_G r (t_Hs_wake zz)) 8 ls st h c n := mx_G_eq (tm_Hs_wake zz) r 8 ls st h c n
theorem st_Hs_wake_9 (zz : Nat × Nat) (r : mx_T) (ls : mx_L) (st : List Value) (h : mx_H) (c n : Nat) : mx_G r (t_Hs_wake zz) 9 ls st h c n = (o_aload 1 0) r (mx_G r (t_Hs_wake zz)) 9 ls st h c n := mx_G_eq (tm_Hs_wake zz) r 9 ls st h c n
theorem st_Hs_wake_10 (zz : Nat × Nat) (r : mx_T) (ls : mx_L) (st : List Value) (h : mx_H) (c n : Nat) : mx_G r (t_Hs_wake zz) 10 ls st h c n = (o_push 1 (.int 0)) r (mx_G r (t_Hs_wake zz)) 10 ls st h c n := mx_G_eq (tm_Hs_wake zz) r 10 ls st h c n
theorem st_Hs_wake_11 (zz : Nat × Nat) (r : mx_T) (ls : mx_L) (st : List Value) (h : mx_H) (c n : Nat) : mx_G r (t_Hs_wake zz) 11 ls st h c n = (o_put 0 9 mx_vZ) r (mx_G r (t_Hs_wake zz)) 11 ls st h c n := mx_G_eq (tm_Hs_wake zz) r 11 ls st h c n
theorem st_Hs_wake_14 (zz : Nat × Nat) (r : mx_T) (ls : mx_L) (st : List Value) (h : mx_H) (c n : Nat) : mx_G r (t_Hs_wake zz) 14 ls st h c n = (o_push 1 (.int 1)) r (mx_G r (t_Hs_wake zz)) 14 ls st h c n := mx_G_eq (tm_Hs_wake zz) r 14 ls st h c n
theorem st_Hs_wake_15 (zz : Nat × Nat) (r : mx_T) (ls : mx_L) (st : List Value) (h : mx_H) (c n : Nat) : mx_G r (t_Hs_wake zz) 15 ls st h c n = (o_zret) r (mx_G r (t_Hs_wake zz)) 15 ls st h c n := mx_G_eq (tm_Hs_wake zz) r 15 ls st h c n
theorem d_Mo_init_0 : decode c_Mo_init 0 = .ok (.aload_n 0, 1) := by decide +kernel
theorem d_Mo_init_1 : decode c_Mo_init 1 = .ok (.invokespecial 1, 3) := by decide +kernel
theorem d_Mo_init_4 : decode c_Mo_init 4 = .ok (.aload_n 0, 1) := by decide +kernel
theorem d_Mo_init_5 : decode c_Mo_init 5 = .ok (.bipush 8, 2) := by decide +kernel
theorem d_Mo_init_7 : decode c_Mo_init 7 = .ok (.newarray .int, 2) := by decide +kernel
theorem d_Mo_init_9 : decode c_Mo_init 9 = .ok (.putfield 7, 3) := by decide +kernel
theorem d_Mo_init_12 : decode c_Mo_init 12 = .ok (.aload_n 0, 1) := by decide +kernel
theorem d_Mo_init_13 : decode c_Mo_init 13 = .ok (.bipush 8, 2) := by decide +kernel
theorem d_Mo_init_15 : decode c_Mo_init 15 = .ok (.newarray .int, 2) := by decide +kernel
theorem d_Mo_init_17 : decode c_Mo_init 17 = .ok (.putfield 13, 3) := by decide +kernel
theorem d_Mo_init_20 : decode c_Mo_init 20 = .ok (.aload_n 0, 1) := by decide +kernel
theorem d_Mo_init_21 : decode c_Mo_init 21 = .ok (.bipush 8, 2) := by decide +kernel
theorem d_Mo_init_23 : decode c_Mo_init 23 = .ok (.newarray .int, 2) := by decide +kernel
theorem d_Mo_init_25 : decode c_Mo_init 25 = .ok (.putfield 16, 3) := by decide +kernel
theorem d_Mo_init_28 : decode c_Mo_init 28 = .ok (.aload_n 0, 1) := by decide +kernel
theorem d_Mo_init_29 : decode c_Mo_init 29 = .ok (.bipush 8, 2) := by decide +kernel
theorem d_Mo_init_31 : decode c_Mo_init 31 = .ok (.newarray .boolean, 2) := by decide +kernel
theorem d_Mo_init_33 : decode c_Mo_init 33 = .ok (.putfield 19, 3) := by decide +kernel
theorem d_Mo_init_36 : decode c_Mo_init 36 = .ok (.aload_n 0, 1) := by decide +kernel
theorem d_Mo_init_37 : decode c_Mo_init 37 = .ok (.bipush 8, 2) := by decide +kernel
theorem d_Mo_init_39 : decode c_Mo_init 39 = .ok (.newarray .boolean, 2) := by decide +kernel
theorem d_Mo_init_41 : decode c_Mo_init 41 = .ok (.putfield 23, 3) := by decide +kernel
theorem d_Mo_init_44 : decode c_Mo_init 44 = .ok (.aload_n 0, 1) := by decide +kernel
theorem d_Mo_init_45 : decode c_Mo_init 45 = .ok (.bipush 8, 2) := by decide +kernel
theorem d_Mo_init_47 : decode c_Mo_init 47 = .ok (.newarray .int, 2) := by decide +kernel
theorem d_Mo_init_49 : decode c_Mo_init 49 = .ok (.putfield 26, 3) := by decide +kernel
theorem d_Mo_init_52 : decode c_Mo_init 52 = .ok (.aload_n 0, 1) := by decide +kernel
theorem d_Mo_init_53 : decode c_Mo_init 53 = .ok (.bipush 16, 2) := by decide +kernel
theorem d_Mo_init_55 : decode c_Mo_init 55 = .ok (.newarray .int, 2) := by decide +kernel
theorem d_Mo_init_57 : decode c_Mo_init 57 = .ok (.putfield 29, 3) := by decide +kernel
theorem d_Mo_init_60 : decode c_Mo_init 60 = .ok (.aload_n 0, 1) := by decide +kernel
theorem d_Mo_init_61 : decode c_Mo_init 61 = .ok (.bipush 16, 2) := by decide +kernel
theorem d_Mo_init_63 : decode c_Mo_init 63 = .ok (.newarray .int, 2) := by decide +kernel
theorem d_Mo_init_65 : decode c_Mo_init 65 = .ok (.putfield 32, 3) := by decide +kernel
theorem d_Mo_init_68 : decode c_Mo_init 68 = .ok (.aload_n 0, 1) := by decide +kernel
theorem d_Mo_init_69 : decode c_Mo_init 69 = .ok (.bipush 16, 2) := by decide +kernel
theorem d_Mo_init_71 : decode c_Mo_init 71 = .ok (.newarray .int, 2) := by decide +kernel
theorem d_Mo_init_73 : decode c_Mo_init 73 = .ok (.putfield 35, 3) := by decide +kernel
theorem d_Mo_init_76 : decode c_Mo_init 76 = .ok (.aload_n 0, 1) := by decide +kernel
theorem d_Mo_init_77 : decode c_Mo_init 77 = .ok (.bipush 16, 2) := by decide +kernel
theorem d_Mo_init_79 : decode c_Mo_init 79 = .ok (.newarray .int, 2) := by decide +kernel
theorem d_Mo_init_81 : decode c_Mo_init 81 = .ok (.putfield 38, 3) := by decide +kernel
theorem d_Mo_init_84 : decode c_Mo_init 84 = .ok (.aload_n 0, 1) := by decide +kernel
theorem d_Mo_init_85 : decode c_Mo_init 85 = .ok (.bipush 16, 2) := by decide +kernel
theorem d_Mo_init_87 : decode c_Mo_init 87 = .ok (.newarray .int, 2) := by decide +kernel
theorem d_Mo_init_89 : decode c_Mo_init 89 = .ok (.putfield 41, 3) := by decide +kernel
theorem d_Mo_init_92 : decode c_Mo_init 92 = .ok (.aload_n 0, 1) := by decide +kernel
theorem d_Mo_init_93 : decode c_Mo_init 93 = .ok (.bipush 16, 2) := by decide +kernel
theorem d_Mo_init_95 : decode c_Mo_init 95 = .ok (.newarray .boolean, 2) := by decide +kernel
theorem d_Mo_init_97 : decode c_Mo_init 97 = .ok (.putfield 44, 3) := by decide +kernel
theorem d_Mo_init_100 : decode c_Mo_init 100 = .ok (.aload_n 0, 1) := by decide +kernel
theorem d_Mo_init_101 : decode c_Mo_init 101 = .ok (.bipush 6, 2) := by decide +kernel
theorem d_Mo_init_103 : decode c_Mo_init 103 = .ok (.newarray .int, 2) := by decide +kernel
theorem d_Mo_init_105 : decode c_Mo_init 105 = .ok (.putfield 47, 3) := by decide +kernel
theorem d_Mo_init_108 : decode c_Mo_init 108 = .ok (.aload_n 0, 1) := by decide +kernel
theorem d_Mo_init_109 : decode c_Mo_init 109 = .ok (.iconst 2, 1) := by decide +kernel
theorem d_Mo_init_110 : decode c_Mo_init 110 = .ok (.newarray .int, 2) := by decide +kernel
theorem d_Mo_init_112 : decode c_Mo_init 112 = .ok (.putfield 50, 3) := by decide +kernel
theorem d_Mo_init_115 : decode c_Mo_init 115 = .ok (.aload_n 0, 1) := by decide +kernel
theorem d_Mo_init_116 : decode c_Mo_init 116 = .ok (.bipush 6, 2) := by decide +kernel
theorem d_Mo_init_118 : decode c_Mo_init 118 = .ok (.newarray .int, 2) := by decide +kernel
theorem d_Mo_init_120 : decode c_Mo_init 120 = .ok (.putfield 53, 3) := by decide +kernel
theorem d_Mo_init_123 : decode c_Mo_init 123 = .ok (.aload_n 0, 1) := by decide +kernel
theorem d_Mo_init_124 : decode c_Mo_init 124 = .ok (.iconst 2, 1) := by decide +kernel
theorem d_Mo_init_125 : decode c_Mo_init 125 = .ok (.newarray .int, 2) := by decide +kernel
theorem d_Mo_init_127 : decode c_Mo_init 127 = .ok (.putfield 56, 3) := by decide +kernel
theorem d_Mo_init_130 : decode c_Mo_init 130 = .ok (.aload_n 0, 1) := by decide +kernel
theorem d_Mo_init_131 : decode c_Mo_init 131 = .ok (.iconst 3, 1) := by decide +kernel
theorem d_Mo_init_132 : decode c_Mo_init 132 = .ok (.newarray .int, 2) := by decide +kernel
theorem d_Mo_init_134 : decode c_Mo_init 134 = .ok (.putfield 59, 3) := by decide +kernel
theorem d_Mo_init_137 : decode c_Mo_init 137 = .ok (.aload_n 0, 1) := by decide +kernel
theorem d_Mo_init_138 : decode c_Mo_init 138 = .ok (.bipush 24, 2) := by decide +kernel
theorem d_Mo_init_140 : decode c_Mo_init 140 = .ok (.newarray .int, 2) := by decide +kernel
theorem d_Mo_init_142 : decode c_Mo_init 142 = .ok (.putfield 62, 3) := by decide +kernel
theorem d_Mo_init_145 : decode c_Mo_init 145 = .ok (.aload_n 0, 1) := by decide +kernel
theorem d_Mo_init_146 : decode c_Mo_init 146 = .ok (.bipush 24, 2) := by decide +kernel
theorem d_Mo_init_148 : decode c_Mo_init 148 = .ok (.newarray .int, 2) := by decide +kernel
theorem d_Mo_init_150 : decode c_Mo_init 150 = .ok (.putfield 65, 3) := by decide +kernel
theorem d_Mo_init_153 : decode c_Mo_init 153 = .ok (.aload_n 0, 1) := by decide +kernel
theorem d_Mo_init_154 : decode c_Mo_init 154 = .ok (.bipush 24, 2) := by decide +kernel
theorem d_Mo_init_156 : decode c_Mo_init 156 = .ok (.newarray .int, 2) := by decide +kernel
theorem d_Mo_init_158 : decode c_Mo_init 158 = .ok (.putfield 68, 3) := by decide +kernel
theorem d_Mo_init_161 : decode c_Mo_init 161 = .ok (.aload_n 0, 1) := by decide +kernel
theorem d_Mo_init_162 : decode c_Mo_init 162 = .ok (.iconst (-1), 1) := by decide +kernel
theorem d_Mo_init_163 : decode c_Mo_init 163 = .ok (.putfield 71, 3) := by decide +kernel
theorem d_Mo_init_166 : decode c_Mo_init 166 = .ok (.aload_n 0, 1) := by decide +kernel
theorem d_Mo_init_167 : decode c_Mo_init 167 = .ok (.bipush 10, 2) := by decide +kernel
theorem d_Mo_init_169 : decode c_Mo_init 169 = .ok (.newarray .int, 2) := by decide +kernel
theorem d_Mo_init_171 : decode c_Mo_init 171 = .ok (.putfield 75, 3) := by decide +kernel
theorem d_Mo_init_174 : decode c_Mo_init 174 = .ok (.aload_n 0, 1) := by decide +kernel
theorem d_Mo_init_175 : decode c_Mo_init 175 = .ok (.iconst 5, 1) := by decide +kernel
theorem d_Mo_init_176 : decode c_Mo_init 176 = .ok (.newarray .int, 2) := by decide +kernel
theorem d_Mo_init_178 : decode c_Mo_init 178 = .ok (.putfield 78, 3) := by decide +kernel
theorem d_Mo_init_181 : decode c_Mo_init 181 = .ok (.return_, 1) := by decide +kernel
def t_Mo_init (zz : Nat × Nat) : List (Nat × mx_O) := [(0, o_aload 1 0),
  (1, o_objinit),
  (4, o_aload 1 0),
  (5, o_push 2 (.int 8)),
  (7, o_newi 22 250 .int),
  (9, o_put 10 1 mx_vA),
  (12, o_aload 1 0),
  (13, o_push 2 (.int 8)),
  (15, o_newi 22 250 .int),
  (17, o_put 10 2 mx_vA),
  (20, o_aload 1 0),
  (21, o_push 2 (.int 8)),
  (23, o_newi 22 250 .int),
  (25, o_put 10 3 mx_vA),
  (28, o_aload 1 0),
  (29, o_push 2 (.int 8)),
  (31, o_newi 22 250 .boolean),
  (33, o_put 10 4 mx_vA),
  (36, o_aload 1 0),
  (37, o_push 2 (.int 8)),
  (39, o_newi 22 250 .boolean),
  (41, o_put 10 5 mx_vA),
  (44, o_aload 1 0),
  (45, o_push 2 (.int 8)),
  (47, o_newi 22 250 .int),
  (49, o_put 10 6 mx_vA),
  (52, o_aload 1 0),
  (53, o_push 2 (.int 16)),
  (55, o_newi 22 250 .int),
  (57, o_put 10 8 mx_vA),
  (60, o_aload 1 0),
  (61, o_push 2 (.int 16)),
  (63, o_newi 22 250 .int),
  (65, o_put 10 9 mx_vA),
  (68, o_aload 1 0),
  (69, o_push 2 (.int 16)),
  (71, o_newi 22 250 .int),
  (73, o_put 10 10 mx_vA),
  (76, o_aload 1 0),
  (77, o_push 2 (.int 16)),
  (79, o_newi 22 250 .int),
  (81, o_put 10 11 mx_vA),
  (84, o_aload 1 0),
  (85, o_push 2 (.int 16)),
  (87, o_newi 22 250 .int),
  (89, o_put 10 12 mx_vA),
  (92, o_aload 1 0),
  (93, o_push 2 (.int 16)),
  (95, o_newi 22 250 .boolean),
  (97, o_put 10 13 mx_vA),
  (100, o_aload 1 0),
  (101, o_push 2 (.int 6)),
  (103, o_newi 22 250 .int),
  (105, o_put 10 15 mx_vA),
  (108, o_aload 1 0),
  (109, o_push 1 (.int 2)),
  (110, o_newi 22 250 .int),
  (112, o_put 10 17 mx_vA),
  (115, o_aload 1 0),
  (116, o_push 2 (.int 6)),
  (118, o_newi 22 250 .int),
  (120, o_put 10 18 mx_vA),
  (123, o_aload 1 0),
  (124, o_push 1 (.int 2)),
  (125, o_newi 22 250 .int),
  (127, o_put 10 19 mx_vA),
  (130, o_aload 1 0),
  (131, o_push 1 (.int 3)),
  (132, o_newi 22 250 .int),
  (134, o_put 10 20 mx_vA),
  (137, o_aload 1 0),
  (138, o_push 2 (.int 24)),
  (140, o_newi 22 250 .int),
  (142, o_put 10 21 mx_vA),
  (145, o_aload 1 0),
  (146, o_push 2 (.int 24)),
  (148, o_newi 22 250 .int),
  (150, o_put 10 22 mx_vA),
  (153, o_aload 1 0),
  (154, o_push 2 (.int 24)),
  (156, o_newi 22 250 .int),
  (158, o_put 10 23 mx_vA),
  (161, o_aload 1 0),
  (162, o_push 1 (.int (-1))),
  (163, o_put 10 32 mx_vI),
  (166, o_aload 1 0),
  (167, o_push 2 (.int 10)),
  (169, o_newi 22 250 .int),
  (171, o_put 10 35 mx_vA),
  (174, o_aload 1 0),
  (175, o_push 1 (.int 5)),
  (176, o_newi 22 250 .int),
  (178, o_put 10 39 mx_vA),
  (181, o_vret)]
set_option maxRecDepth 100000 in
theorem tm_Mo_init (zz : Nat × Nat) : mx_All (fun _ o => mx_Mono o) (t_Mo_init zz) := by
  refine mx_all_cons (mo_st) ?_
  refine mx_all_cons (mo_sc) ?_
  refine mx_all_cons (mo_st) ?_
  refine mx_all_cons (mo_st) ?_
  refine mx_all_cons (mo_al) ?_
  refine mx_all_cons (mo_sc) ?_
  refine mx_all_cons (mo_st) ?_
  refine mx_all_cons (mo_st) ?_
  refine mx_all_cons (mo_al) ?_
  refine mx_all_cons (mo_sc) ?_
  refine mx_all_cons (mo_st) ?_
  refine mx_all_cons (mo_st) ?_
  refine mx_all_cons (mo_al) ?_
  refine mx_all_cons (mo_sc) ?_
  refine mx_all_cons (mo_st) ?_
  refine mx_all_cons (mo_st) ?_
  refine mx_all_cons (mo_al) ?_
  refine mx_all_cons (mo_sc) ?_
  refine mx_all_cons (mo_st) ?_
  refine mx_all_cons (mo_st) ?_
  refine mx_all_cons (mo_al) ?_
  refine mx_all_cons (mo_sc) ?_
  refine mx_all_cons (mo_st) ?_
  refine mx_all_cons (mo_st) ?_
  refine mx_all_cons (mo_al) ?_
  refine mx_all_cons (mo_sc) ?_
  refine mx_all_cons (mo_st) ?_
  refine mx_all_cons (mo_st) ?_
  refine mx_all_cons (mo_al) ?_
  refine mx_all_cons (mo_sc) ?_
  refine mx_all_cons (mo_st) ?_
  refine mx_all_cons (mo_st) ?_
  refine mx_all_cons (mo_al) ?_
  refine mx_all_cons (mo_sc) ?_
  refine mx_all_cons (mo_st) ?_
  refine mx_all_cons (mo_st) ?_
  refine mx_all_cons (mo_al) ?_
  refine mx_all_cons (mo_sc) ?_
  refine mx_all_cons (mo_st) ?_
  refine mx_all_cons (mo_st) ?_
  refine mx_all_cons (mo_al) ?_
  refine mx_all_cons (mo_sc) ?_
  refine mx_all_cons (mo_st) ?_
  refine mx_all_cons (mo_st) ?_
  refine mx_all_cons (mo_al) ?_
  refine mx_all_cons (mo_sc) ?_
  refine mx_all_cons (mo_st) ?_
  refine mx_all_cons (mo_st) ?_
  refine mx_all_cons (mo_al) ?_
  refine mx_all_cons (mo_sc) ?_
  refine mx_all_cons (mo_st) ?_
  refine mx_all_cons (mo_st) ?_
  refine mx_all_cons (mo_al) ?_
  refine mx_all_cons (mo_sc) ?_
  refine mx_all_cons (mo_st) ?_
  refine mx_all_cons (mo_st) ?_
  refine mx_all_cons (mo_al) ?_
  refine mx_all_cons (mo_sc) ?_
  refine mx_all_cons (mo_st) ?_
  refine mx_all_cons (mo_st) ?_
  refine mx_all_cons (mo_al) ?_
  refine mx_all_cons (mo_sc) ?_
  refine mx_all_cons (mo_st) ?_
  refine mx_all_cons (mo_st) ?_
  refine mx_all_cons (mo_al) ?_
  refine mx_all_cons (mo_sc) ?_
  refine mx_all_cons (mo_st) ?_
  refine mx_all_cons (mo_st) ?_
  refine mx_all_cons (mo_al) ?_
  refine mx_all_cons (mo_sc) ?_
  refine mx_all_cons (mo_st) ?_
  refine mx_all_cons (mo_st) ?_
  refine mx_all_cons (mo_al) ?_
  refine mx_all_cons (mo_sc) ?_
  refine mx_all_cons (mo_st) ?_
  refine mx_all_cons (mo_st) ?_
  refine mx_all_cons (mo_al) ?_
  refine mx_all_cons (mo_sc) ?_
  refine mx_all_cons (mo_st) ?_
  refine mx_all_cons (mo_st) ?_
  refine mx_all_cons (mo_al) ?_
  refine mx_all_cons (mo_sc) ?_
  refine mx_all_cons (mo_st) ?_
  refine mx_all_cons (mo_st) ?_
  refine mx_all_cons (mo_sc) ?_
  refine mx_all_cons (mo_st) ?_
  refine mx_all_cons (mo_st) ?_
  refine mx_all_cons (mo_al) ?_
  refine mx_all_cons (mo_sc) ?_
  refine mx_all_cons (mo_st) ?_
  refine mx_all_cons (mo_st) ?_
  refine mx_all_cons (mo_al) ?_
  refine mx_all_cons (mo_sc) ?_
  refine mx_all_cons (mo_ret) ?_
  exact mx_all_nil
def S_Mo_init (zz : Nat × Nat) : mx_Sp := mx_S 1 22 250 (t_Mo_init zz)
theorem sm_Mo_init (zz : Nat × Nat) : mx_SMono (S_Mo_init zz) := mx_S_mono (tm_Mo_init zz)
abbrev rm_Mo_init : Room := { frames := 1, cells := 22, slots := 250, locals := 20 }
set_option maxHeartbeats 4000000 in
set_option maxRecDepth 100000 in
theorem m_Mo_init (l : Launch) (zz : Nat × Nat) : mx_Met l y_Mo_init (wsOf y_Mo_init c_Mo_init 1 none) rm_Mo_init wcl (mx_Z zz) 22 250 (S_Mo_init zz) := by
  refine mx_met (cc := c_Mo_init) (ret := none) (by decide) rfl ?_
  intro p e s m args below meth c D A Post X hz hr hlk hnm
  have hm : ∀ w ∈ mw, w.before args s = true := fun w h => X.1.2.2.2.2 w (List.mem_cons_of_mem _ h)
  refine mx_all_cons (ok_aload (fun hl kk => lv_aload_n X.1.1 X.1.2.1 d_Mo_init_0 rfl hl kk) (fun hl kk => lv_aload_nN X.1.1 X.1.2.1 d_Mo_init_0 rfl hl kk)) ?_
  refine mx_all_cons (ok_objinit X ⟨(Nat.le_of_ble_eq_true rfl), (Nat.le_of_ble_eq_true rfl)⟩ (hm _ w676) (hm _ w58) (hm _ w_oic) d_Mo_init_1) ?_
  refine mx_all_cons (ok_aload (fun hl kk => lv_aload_n X.1.1 X.1.2.1 d_Mo_init_4 rfl hl kk) (fun hl kk => lv_aload_nN X.1.1 X.1.2.1 d_Mo_init_4 rfl hl kk)) ?_
  refine mx_all_cons (ok_push (fun kk => lv_bipush X.1.1 X.1.2.1 d_Mo_init_5 (by decide) kk)) ?_
  refine mx_all_cons (ok_newi (atype := .int) X ⟨(Nat.le_of_ble_eq_true rfl), (Nat.le_of_ble_eq_true rfl)⟩ (hm _ w157) rfl rfl (by decide) d_Mo_init_7) ?_
  refine mx_all_cons (ok_put (C := "HeaderScheduleModel") (T := T_Mo) (N := 40) X (mw_up in_Mo) ty_Mo tyok_Mo nm_Mo rfl 1 (by decide) (hm _ w678) (fun _ h9 => h9) rfl (tyok_Mo 1 (by decide)) mx_vA_okR d_Mo_init_9) ?_
  refine mx_all_cons (ok_aload (fun hl kk => lv_aload_n X.1.1 X.1.2.1 d_Mo_init_12 rfl hl kk) (fun hl kk => lv_aload_nN X.1.1 X.1.2.1 d_Mo_init_12 rfl hl kk)) ?_
  refine mx_all_cons (ok_push (fun kk => lv_bipush X.1.1 X.1.2.1 d_Mo_init_13 (by decide) kk)) ?_
  refine mx_all_cons (ok_newi (atype := .int) X ⟨(Nat.le_of_ble_eq_true rfl), (Nat.le_of_ble_eq_true rfl)⟩ (hm _ w157) rfl rfl (by decide) d_Mo_init_15) ?_
  refine mx_all_cons (ok_put (C := "HeaderScheduleModel") (T := T_Mo) (N := 40) X (mw_up in_Mo) ty_Mo tyok_Mo nm_Mo rfl 2 (by decide) (hm _ w679) (fun _ h9 => h9) rfl (tyok_Mo 2 (by decide)) mx_vA_okR d_Mo_init_17) ?_
  refine mx_all_cons (ok_aload (fun hl kk => lv_aload_n X.1.1 X.1.2.1 d_Mo_init_20 rfl hl kk) (fun hl kk => lv_aload_nN X.1.1 X.1.2.1 d_Mo_init_20 rfl hl kk)) ?_
  refine mx_all_cons (ok_push (fun kk => lv_bipush X.1.1 X.1.2.1 d_Mo_init_21 (by decide) kk)) ?_
  refine mx_all_cons (ok_newi (atype := .int) X ⟨(Nat.le_of_ble_eq_true rfl), (Nat.le_of_ble_eq_true rfl)⟩ (hm _ w157) rfl rfl (by decide) d_Mo_init_23) ?_
  refine mx_all_cons (ok_put (C := "HeaderScheduleModel") (T := T_Mo) (N := 40) X (mw_up in_Mo) ty_Mo tyok_Mo nm_Mo rfl 3 (by decide) (hm _ w680) (fun _ h9 => h9) rfl (tyok_Mo 3 (by decide)) mx_vA_okR d_Mo_init_25) ?_
  refine mx_all_cons (ok_aload (fun hl kk => lv_aload_n X.1.1 X.1.2.1 d_Mo_init_28 rfl hl kk) (fun hl kk => lv_aload_nN X.1.1 X.1.2.1 d_Mo_init_28 rfl hl kk)) ?_
  refine mx_all_cons (ok_push (fun kk => lv_bipush X.1.1 X.1.2.1 d_Mo_init_29 (by decide) kk)) ?_
  refine mx_all_cons (ok_newi (atype := .boolean) X ⟨(Nat.le_of_ble_eq_true rfl), (Nat.le_of_ble_eq_true rfl)⟩ (hm _ w107) rfl rfl (by decide) d_Mo_init_31) ?_
  refine mx_all_cons (ok_put (C := "HeaderScheduleModel") (T := T_Mo) (N := 40) X (mw_up in_Mo) ty_Mo tyok_Mo nm_Mo rfl 4 (by decide) (hm _ w681) (fun _ h9 => h9) rfl (tyok_Mo 4 (by decide)) mx_vA_okR d_Mo_init_33) ?_
  refine mx_all_cons (ok_aload (fun hl kk => lv_aload_n X.1.1 X.1.2.1 d_Mo_init_36 rfl hl kk) (fun hl kk => lv_aload_nN X.1.1 X.1.2.1 d_Mo_init_36 rfl hl kk)) ?_
  refine mx_all_cons (ok_push (fun kk => lv_bipush X.1.1 X.1.2.1 d_Mo_init_37 (by decide) kk)) ?_
  refine mx_all_cons (ok_newi (atype := .boolean) X ⟨(Nat.le_of_ble_eq_true rfl), (Nat.le_of_ble_eq_true rfl)⟩ (hm _ w107) rfl rfl (by decide) d_Mo_init_39) ?_
  refine mx_all_cons (ok_put (C := "HeaderScheduleModel") (T := T_Mo) (N := 40) X (mw_up in_Mo) ty_Mo tyok_Mo nm_Mo rfl 5 (by decide) (hm _ w682) (fun _ h9 => h9) rfl (tyok_Mo 5 (by decide)) mx_vA_okR d_Mo_init_41) ?_
  refine mx_all_cons (ok_aload (fun hl kk => lv_aload_n X.1.1 X.1.2.1 d_Mo_init_44 rfl hl kk) (fun hl kk => lv_aload_nN X.1.1 X.1.2.1 d_Mo_init_44 rfl hl kk)) ?_
  refine mx_all_cons (ok_push (fun kk => lv_bipush X.1.1 X.1.2.1 d_Mo_init_45 (by decide) kk)) ?_
  refine mx_all_cons (ok_newi (atype := .int) X ⟨(Nat.le_of_ble_eq_true rfl), (Nat.le_of_ble_eq_true rfl)⟩ (hm _ w157) rfl rfl (by decide) d_Mo_init_47) ?_
  refine mx_all_cons (ok_put (C := "HeaderScheduleModel") (T := T_Mo) (N := 40) X (mw_up in_Mo) ty_Mo tyok_Mo nm_Mo rfl 6 (by decide) (hm _ w683) (fun _ h9 => h9) rfl (tyok_Mo 6 (by decide)) mx_vA_okR d_Mo_init_49) ?_
  refine mx_all_cons (ok_aload (fun hl kk => lv_aload_n X.1.1 X.1.2.1 d_Mo_init_52 rfl hl kk) (fun hl kk => lv_aload_nN X.1.1 X.1.2.1 d_Mo_init_52 rfl hl kk)) ?_
  refine mx_all_cons (ok_push (fun kk => lv_bipush X.1.1 X.1.2.1 d_Mo_init_53 (by decide) kk)) ?_
  refine mx_all_cons (ok_newi (atype := .int) X ⟨(Nat.le_of_ble_eq_true rfl), (Nat.le_of_ble_eq_true rfl)⟩ (hm _ w157) rfl rfl (by decide) d_Mo_init_55) ?_
  refine mx_all_cons (ok_put (C := "HeaderScheduleModel") (T := T_Mo) (N := 40) X (mw_up in_Mo) ty_Mo tyok_Mo nm_Mo rfl 8 (by decide) (hm _ w685) (fun _ h9 => h9) rfl (tyok_Mo 8 (by decide)) mx_vA_okR d_Mo_init_57) ?_
  refine mx_all_cons (ok_aload (fun hl kk => lv_aload_n X.1.1 X.1.2.1 d_Mo_init_60 rfl hl kk) (fun hl kk => lv_aload_nN X.1.1 X.1.2.1 d_Mo_init_60 rfl hl kk)) ?_
  refine mx_all_cons (ok_push (fun kk => lv_bipush X.1.1 X.1.2.1 d_Mo_init_61 (by decide) kk)) ?_
  refine mx_all_cons (ok_newi (atype := .int) X ⟨(Nat.le_of_ble_eq_true rfl), (Nat.le_of_ble_eq_true rfl)⟩ (hm _ w157) rfl rfl (by decide) d_Mo_init_63) ?_
  refine mx_all_cons (ok_put (C := "HeaderScheduleModel") (T := T_Mo) (N := 40) X (mw_up in_Mo) ty_Mo tyok_Mo nm_Mo rfl 9 (by decide) (hm _ w686) (fun _ h9 => h9) rfl (tyok_Mo 9 (by decide)) mx_vA_okR d_Mo_init_65) ?_
  refine mx_all_cons (ok_aload (fun hl kk => lv_aload_n X.1.1 X.1.2.1 d_Mo_init_68 rfl hl kk) (fun hl kk => lv_aload_nN X.1.1 X.1.2.1 d_Mo_init_68 rfl hl kk)) ?_
  refine mx_all_cons (ok_push (fun kk => lv_bipush X.1.1 X.1.2.1 d_Mo_init_69 (by decide) kk)) ?_
  refine mx_all_cons (ok_newi (atype := .int) X ⟨(Nat.le_of_ble_eq_true rfl), (Nat.le_of_ble_eq_true rfl)⟩ (hm _ w157) rfl rfl (by decide) d_Mo_init_71) ?_
  refine mx_all_cons (ok_put (C := "HeaderScheduleModel") (T := T_Mo) (N := 40) X (mw_up in_Mo) ty_Mo tyok_Mo nm_Mo rfl 10 (by decide) (hm _ w687) (fun _ h9 => h9) rfl (tyok_Mo 10 (by decide)) mx_vA_okR d_Mo_init_73) ?_
  refine mx_all_cons (ok_aload (fun hl kk => lv_aload_n X.1.1 X.1.2.1 d_Mo_init_76 rfl hl kk) (fun hl kk => lv_aload_nN X.1.1 X.1.2.1 d_Mo_init_76 rfl hl kk)) ?_
  refine mx_all_cons (ok_push (fun kk => lv_bipush X.1.1 X.1.2.1 d_Mo_init_77 (by decide) kk)) ?_
  refine mx_all_cons (ok_newi (atype := .int) X ⟨(Nat.le_of_ble_eq_true rfl), (Nat.le_of_ble_eq_true rfl)⟩ (hm _ w157) rfl rfl (by decide) d_Mo_init_79) ?_
  refine mx_all_cons (ok_put (C := "HeaderScheduleModel") (T := T_Mo) (N := 40) X (mw_up in_Mo) ty_Mo tyok_Mo nm_Mo rfl 11 (by decide) (hm _ w688) (fun _ h9 => h9) rfl (tyok_Mo 11 (by decide)) mx_vA_okR d_Mo_init_81) ?_
  refine mx_all_cons (ok_aload (fun hl kk => lv_aload_n X.1.1 X.1.2.1 d_Mo_init_84 rfl hl kk) (fun hl kk => lv_aload_nN X.1.1 X.1.2.1 d_Mo_init_84 rfl hl kk)) ?_
  refine mx_all_cons (ok_push (fun kk => lv_bipush X.1.1 X.1.2.1 d_Mo_init_85 (by decide) kk)) ?_
  refine mx_all_cons (ok_newi (atype := .int) X ⟨(Nat.le_of_ble_eq_true rfl), (Nat.le_of_ble_eq_true rfl)⟩ (hm _ w157) rfl rfl (by decide) d_Mo_init_87) ?_
  refine mx_all_cons (ok_put (C := "HeaderScheduleModel") (T := T_Mo) (N := 40) X (mw_up in_Mo) ty_Mo tyok_Mo nm_Mo rfl 12 (by decide) (hm _ w689) (fun _ h9 => h9) rfl (tyok_Mo 12 (by decide)) mx_vA_okR d_Mo_init_89) ?_
  refine mx_all_cons (ok_aload (fun hl kk => lv_aload_n X.1.1 X.1.2.1 d_Mo_init_92 rfl hl kk) (fun hl kk => lv_aload_nN X.1.1 X.1.2.1 d_Mo_init_92 rfl hl kk)) ?_
  refine mx_all_cons (ok_push (fun kk => lv_bipush X.1.1 X.1.2.1 d_Mo_init_93 (by decide) kk)) ?_
  refine mx_all_cons (ok_newi (atype := .boolean) X ⟨(Nat.le_of_ble_eq_true rfl), (Nat.le_of_ble_eq_true rfl)⟩ (hm _ w107) rfl rfl (by decide) d_Mo_init_95) ?_
  refine mx_all_cons (ok_put (C := "HeaderScheduleModel") (T := T_Mo) (N := 40) X (mw_up in_Mo) ty_Mo tyok_Mo nm_Mo rfl 13 (by decide) (hm _ w690) (fun _ h9 => h9) rfl (tyok_Mo 13 (by decide)) mx_vA_okR d_Mo_init_97) ?_
  refine mx_all_cons (ok_aload (fun hl kk => lv_aload_n X.1.1 X.1.2.1 d_Mo_init_100 rfl hl kk) (fun hl kk => lv_aload_nN X.1.1 X.1.2.1 d_Mo_init_100 rfl hl kk)) ?_
  refine mx_all_cons (ok_push (fun kk => lv_bipush X.1.1 X.1.2.1 d_Mo_init_101 (by decide) kk)) ?_
  refine mx_all_cons (ok_newi (atype := .int) X ⟨(Nat.le_of_ble_eq_true rfl), (Nat.le_of_ble_eq_true rfl)⟩ (hm _ w157) rfl rfl (by decide) d_Mo_init_103) ?_
  refine mx_all_cons (ok_put (C := "HeaderScheduleModel") (T := T_Mo) (N := 40) X (mw_up in_Mo) ty_Mo tyok_Mo nm_Mo rfl 15 (by decide) (hm _ w692) (fun _ h9 => h9) rfl (tyok_Mo 15 (by decide)) mx_vA_okR d_Mo_init_105) ?_
  refine mx_all_cons (ok_aload (fun hl kk => lv_aload_n X.1.1 X.1.2.1 d_Mo_init_108 rfl hl kk) (fun hl kk => lv_aload_nN X.1.1 X.1.2.1 d_Mo_init_108 rfl hl kk)) ?_
  refine mx_all_cons (ok_push (fun kk => lv_iconst X.1.1 X.1.2.1 d_Mo_init_109 (by decide) kk)) ?_
  refine mx_all_cons (ok_newi (atype := .int) X ⟨(Nat.le_of_ble_eq_true rfl), (Nat.le_of_ble_eq_true rfl)⟩ (hm _ w157) rfl rfl (by decide) d_Mo_init_110) ?_
  refine mx_all_cons (ok_put (C := "HeaderScheduleModel") (T := T_Mo) (N := 40) X (mw_up in_Mo) ty_Mo tyok_Mo nm_Mo rfl 17 (by decide) (hm _ w694) (fun _ h9 => h9) rfl (tyok_Mo 17 (by decide)) mx_vA_okR d_Mo_init_112) ?_
  refine mx_all_cons (ok_aload (fun hl kk => lv_aload_n X.1.1 X.1.2.1 d_Mo_init_115 rfl hl kk) (fun hl kk => lv_aload_nN X.1.1 X.1.2.1 d_Mo_init_115 rfl hl kk)) ?_
  refine mx_all_cons (ok_push (fun kk => lv_bipush X.1.1 X.1.2.1 d_Mo_init_116 (by decide) kk)) ?_
  refine mx_all_cons (ok_newi (atype := .int) X ⟨(Nat.le_of_ble_eq_true rfl), (Nat.le_of_ble_eq_true rfl)⟩ (hm _ w157) rfl rfl (by decide) d_Mo_init_118) ?_
  refine mx_all_cons (ok_put (C := "HeaderScheduleModel") (T := T_Mo) (N := 40) X (mw_up in_Mo) ty_Mo tyok_Mo nm_Mo rfl 18 (by decide) (hm _ w695) (fun _ h9 => h9) rfl (tyok_Mo 18 (by decide)) mx_vA_okR d_Mo_init_120) ?_
  refine mx_all_cons (ok_aload (fun hl kk => lv_aload_n X.1.1 X.1.2.1 d_Mo_init_123 rfl hl kk) (fun hl kk => lv_aload_nN X.1.1 X.1.2.1 d_Mo_init_123 rfl hl kk)) ?_
  refine mx_all_cons (ok_push (fun kk => lv_iconst X.1.1 X.1.2.1 d_Mo_init_124 (by decide) kk)) ?_
  refine mx_all_cons (ok_newi (atype := .int) X ⟨(Nat.le_of_ble_eq_true rfl), (Nat.le_of_ble_eq_true rfl)⟩ (hm _ w157) rfl rfl (by decide) d_Mo_init_125) ?_
  refine mx_all_cons (ok_put (C := "HeaderScheduleModel") (T := T_Mo) (N := 40) X (mw_up in_Mo) ty_Mo tyok_Mo nm_Mo rfl 19 (by decide) (hm _ w696) (fun _ h9 => h9) rfl (tyok_Mo 19 (by decide)) mx_vA_okR d_Mo_init_127) ?_
  refine mx_all_cons (ok_aload (fun hl kk => lv_aload_n X.1.1 X.1.2.1 d_Mo_init_130 rfl hl kk) (fun hl kk => lv_aload_nN X.1.1 X.1.2.1 d_Mo_init_130 rfl hl kk)) ?_
  refine mx_all_cons (ok_push (fun kk => lv_iconst X.1.1 X.1.2.1 d_Mo_init_131 (by decide) kk)) ?_
  refine mx_all_cons (ok_newi (atype := .int) X ⟨(Nat.le_of_ble_eq_true rfl), (Nat.le_of_ble_eq_true rfl)⟩ (hm _ w157) rfl rfl (by decide) d_Mo_init_132) ?_
  refine mx_all_cons (ok_put (C := "HeaderScheduleModel") (T := T_Mo) (N := 40) X (mw_up in_Mo) ty_Mo tyok_Mo nm_Mo rfl 20 (by decide) (hm _ w697) (fun _ h9 => h9) rfl (tyok_Mo 20 (by decide)) mx_vA_okR d_Mo_init_134) ?_
  refine mx_all_cons (ok_aload (fun hl kk => lv_aload_n X.1.1 X.1.2.1 d_Mo_init_137 rfl hl kk) (fun hl kk => lv_aload_nN X.1.1 X.1.2.1 d_Mo_init_137 rfl hl kk)) ?_
  refine mx_all_cons (ok_push (fun kk => lv_bipush X.1.1 X.1.2.1 d_Mo_init_138 (by decide) kk)) ?_
  refine mx_all_cons (ok_newi (atype := .int) X ⟨(Nat.le_of_ble_eq_true rfl), (Nat.le_of_ble_eq_true rfl)⟩ (hm _ w157) rfl rfl (by decide) d_Mo_init_140) ?_
  refine mx_all_cons (ok_put (C := "HeaderScheduleModel") (T := T_Mo) (N := 40) X (mw_up in_Mo) ty_Mo tyok_Mo nm_Mo rfl 21 (by decide) (hm _ w698) (fun _ h9 => h9) rfl (tyok_Mo 21 (by decide)) mx_vA_okR d_Mo_init_142) ?_
  refine mx_all_cons (ok_aload (fun hl kk => lv_aload_n X.1.1 X.1.2.1 d_Mo_init_145 rfl hl kk) (fun hl kk => lv_aload_nN X.1.1 X.1.2.1 d_Mo_init_145 rfl hl kk)) ?_
  refine mx_all_cons (ok_push (fun kk => lv_bipush X.1.1 X.1.2.1 d_Mo_init_146 (by decide) kk)) ?_
  refine mx_all_cons (ok_newi (atype := .int) X ⟨(Nat.le_of_ble_eq_true rfl), (Nat.le_of_ble_eq_true rfl)⟩ (hm _ w157) rfl rfl (by decide) d_Mo_init_148) ?_
  refine mx_all_cons (ok_put (C := "HeaderScheduleModel") (T := T_Mo) (N := 40) X (mw_up in_Mo) ty_Mo tyok_Mo nm_Mo rfl 22 (by decide) (hm _ w699) (fun _ h9 => h9) rfl (tyok_Mo 22 (by decide)) mx_vA_okR d_Mo_init_150) ?_
  refine mx_all_cons (ok_aload (fun hl kk => lv_aload_n X.1.1 X.1.2.1 d_Mo_init_153 rfl hl kk) (fun hl kk => lv_aload_nN X.1.1 X.1.2.1 d_Mo_init_153 rfl hl kk)) ?_
  refine mx_all_cons (ok_push (fun kk => lv_bipush X.1.1 X.1.2.1 d_Mo_init_154 (by decide) kk)) ?_
  refine mx_all_cons (ok_newi (atype := .int) X ⟨(Nat.le_of_ble_eq_true rfl), (Nat.le_of_ble_eq_true rfl)⟩ (hm _ w157) rfl rfl (by decide) d_Mo_init_156) ?_
  refine mx_all_cons (ok_put (C := "HeaderScheduleModel") (T := T_Mo) (N := 40) X (mw_up in_Mo) ty_Mo tyok_Mo nm_Mo rfl 23 (by decide) (hm _ w700) (fun _ h9 => h9) rfl (tyok_Mo 23 (by decide)) mx_vA_okR d_Mo_init_158) ?_
  refine mx_all_cons (ok_aload (fun hl kk => lv_aload_n X.1.1 X.1.2.1 d_Mo_init_161 rfl hl kk) (fun hl kk => lv_aload_nN X.1.1 X.1.2.1 d_Mo_init_161 rfl hl kk)) ?_
  refine mx_all_cons (ok_push (fun kk => lv_iconst X.1.1 X.1.2.1 d_Mo_init_162 (by decide) kk)) ?_
  refine mx_all_cons (ok_put (C := "HeaderScheduleModel") (T := T_Mo) (N := 40) X (mw_up in_Mo) ty_Mo tyok_Mo nm_Mo rfl 32 (by decide) (hm _ w709) (fun _ h9 => h9) rfl (tyok_Mo 32 (by decide)) mx_vI_ok d_Mo_init_163) ?_
  refine mx_all_cons (ok_aload (fun hl kk => lv_aload_n X.1.1 X.1.2.1 d_Mo_init_166 rfl hl kk) (fun hl kk => lv_aload_nN X.1.1 X.1.2.1 d_Mo_init_166 rfl hl kk)) ?_
  refine mx_all_cons (ok_push (fun kk => lv_bipush X.1.1 X.1.2.1 d_Mo_init_167 (by decide) kk)) ?_
  refine mx_all_cons (ok_newi (atype := .int) X ⟨(Nat.le_of_ble_eq_true rfl), (Nat.le_of_ble_eq_true rfl)⟩ (hm _ w157) rfl rfl (by decide) d_Mo_init_169) ?_
  refine mx_all_cons (ok_put (C := "HeaderScheduleModel") (T := T_Mo) (N := 40) X (mw_up in_Mo) ty_Mo tyok_Mo nm_Mo rfl 35 (by decide) (hm _ w712) (fun _ h9 => h9) rfl (tyok_Mo 35 (by decide)) mx_vA_okR d_Mo_init_171) ?_
  refine mx_all_cons (ok_aload (fun hl kk => lv_aload_n X.1.1 X.1.2.1 d_Mo_init_174 rfl hl kk) (fun hl kk => lv_aload_nN X.1.1 X.1.2.1 d_Mo_init_174 rfl hl kk)) ?_
  refine mx_all_cons (ok_push (fun kk => lv_iconst X.1.1 X.1.2.1 d_Mo_init_175 (by decide) kk)) ?_
  refine mx_all_cons (ok_newi (atype := .int) X ⟨(Nat.le_of_ble_eq_true rfl), (Nat.le_of_ble_eq_true rfl)⟩ (hm _ w157) rfl rfl (by decide) d_Mo_init_176) ?_
  refine mx_all_cons (ok_put (C := "HeaderScheduleModel") (T := T_Mo) (N := 40) X (mw_up in_Mo) ty_Mo tyok_Mo nm_Mo rfl 39 (by decide) (hm _ w716) (fun _ h9 => h9) rfl (tyok_Mo 39 (by decide)) mx_vA_okR d_Mo_init_178) ?_
  refine mx_all_cons (ok_vret X hr hlk d_Mo_init_181) ?_
  exact mx_all_nil
theorem st_Mo_init_0 (zz : Nat × Nat) (r : mx_T) (ls : mx_L) (st : List Value) (h : mx_H) (c n : Nat) : mx_G r (t_Mo_init zz) 0 ls st h c n = (o_aload 1 0) r (mx_G r (t_Mo_init zz)) 0 ls st h c n := mx_G_eq (tm_Mo_init zz) r 0 ls st h c n
theorem st_Mo_init_1 (zz : Nat × Nat) (r : mx_T) (ls : mx_L) (st : List Value) (h : mx_H) (c n : Nat) : mx_G r (t_Mo_init zz) 1 ls st h c n = (o_objinit) r (mx_G r (t_Mo_init zz)) 1 ls st h c n := mx_G_eq (tm_Mo_init zz) r 1 ls st h c n
theorem st_Mo_init_4 (zz : Nat × Nat) (r : mx_T) (ls : mx_L) (st : List Value) (h : mx_H) (c n : Nat) : mx_G r (t_Mo_init zz) 4 ls st h c n = (o_aload 1 0) r (mx_G r (t_Mo_init zz)) 4 ls st h c n := mx_G_eq (tm_Mo_init zz) r 4 ls st h c n
theorem st_Mo_init_5 (zz : Nat × Nat) (r : mx_T) (ls : mx_L) (st : List Value) (h : mx_H) (c n : Nat) : mx_G r (t_Mo_init zz) 5 ls st h c n = (o_push 2 (.int 8)) r (mx_G r (t_Mo_init zz)) 5 ls st h c n := mx_G_eq (tm_Mo_init zz) r 5 ls st h c n
theorem st_Mo_init_7 (zz : Nat × Nat) (r : mx_T) (ls : mx_L) (st : List Value) (h : mx_H) (c n : Nat) : mx_G r (t_Mo_init zz) 7 ls st h c n = (o_newi 22 250 .int) r (mx_G r (t_Mo_init zz)) 7 ls st h c n := mx_G_eq (tm_Mo_init zz) r 7 ls st h c n
theorem st_Mo_init_9 (zz : Nat × Nat) (r : mx_T) (ls : mx_L) (st : List Value) (h : mx_H) (c n : Nat) : mx_G r (t_Mo_init zz) 9 ls st h c n = (o_put 10 1 mx_vA) r (mx_G r (t_Mo_init zz)) 9 ls st h c n := mx_G_eq (tm_Mo_init zz) r 9 ls st h c n
theorem st_Mo_init_12 (zz : Nat × Nat) (r : mx_T) (ls : mx_L) (st : List Value) (h : mx_H) (c n : Nat) : mx_G r (t_Mo_init zz) 12 ls st h c n = (o_aload 1 0) r (mx_G r (t_Mo_init zz)) 12 ls st h c n := mx_G_eq (tm_Mo_init zz) r 12 ls st h c n
theorem st_Mo_init_13 (zz : Nat × Nat) (r : mx_T) (ls : mx_L) (st : List Value) (h : mx_H) (c n : Nat) : mx_G r (t_Mo_init zz) 13 ls st h c n = (o_push 2 (.int 8)) r (mx_G r (t_Mo_init zz)) 13 ls st h c n := mx_G_eq (tm_Mo_init zz) r 13 ls st h c n
theorem st_Mo_init_15 (zz : Nat × Nat) (r : mx_T) (ls : mx_L) (st : List Value) (h : mx_H) (c n : Nat) : mx_G r (t_Mo_init zz) 15 ls st h c n = (o_newi 22 250 .int) r (mx_G r (t_Mo_init zz)) 15 ls st h c n := mx_G_eq (tm_Mo_init zz) r 15 ls st h c n
theorem st_Mo_init_17 (zz : Nat × Nat) (r : mx_T) (ls : mx_L) (st : List Value) (h : mx_H) (c n : Nat) : mx_G r (t_Mo_init zz) 17 ls st h c n = (o_put 10 2 mx_vA) r (mx_G r (t_Mo_init zz)) 17 ls st h c n := mx_G_eq (tm_Mo_init zz) r 17 ls st h c n
theorem st_Mo_init_20 (zz : Nat × Nat) (r : mx_T) (ls : mx_L) (st : List Value) (h : mx_H) (c n : Nat) : mx_G r (t_Mo_init zz) 20 ls st h c n = (o_aload 1 0) r (mx_G r (t_Mo_init zz)) 20 ls st h c n := mx_G_eq (tm_Mo_init zz) r 20 ls st h c n
theorem st_Mo_init_21 (zz : Nat × Nat) (r : mx_T) (ls : mx_L) (st : List Value) (h : mx_H) (c n : Nat) : mx_G r (t_Mo_init zz) 21 ls st h c n = (o_push 2 (.int 8)) r (mx_G r (t_Mo_init zz)) 21 ls st h c n := mx_G_eq (tm_Mo_init zz) r 21 ls st h c n
theorem st_Mo_init_23 (zz : Nat × Nat) (r : mx_T) (ls : mx_L) (st : List Value) (h : mx_H) (c n : Nat) : mx_G r (t_Mo_init zz) 23 ls st h c n = (o_newi 22 250 .int) r (mx_G r (t_Mo_init zz)) 23 ls st h c n := mx_G_eq (tm_Mo_init zz) r 23 ls st h c n
theorem st_Mo_init_25 (zz : Nat × Nat) (r : mx_T) (ls : mx_L) (st : List Value) (h : mx_H) (c n : Nat) : mx_G r (t_Mo_init zz) 25 ls st h c n = (o_put 10 3 mx_vA) r (mx_G r (t_Mo_init zz)) 25 ls st h c n := mx_G_eq (tm_Mo_init zz) r 25 ls st h c n
theorem st_Mo_init_28 (zz : Nat × Nat) (r : mx_T) (ls : mx_L) (st : List Value) (h : mx_H) (c n : Nat) : mx_G r (t_Mo_init zz) 28 ls st h c n = (o_aload 1 0) r (mx_G r (t_Mo_init zz)) 28 ls st h c n := mx_G_eq (tm_Mo_init zz) r 28 ls st h c n
theorem st_Mo_init_29 (zz : Nat × Nat) (r : mx_T) (ls : mx_L) (st : List Value) (h : mx_H) (c n : Nat) : mx_G r (t_Mo_init zz) 29 ls st h c n = (o_push 2 (.int 8)) r (mx_G r (t_Mo_init zz)) 29 ls st h c n := mx_G_eq (tm_Mo_init zz) r 29 ls st h c n
theorem st_Mo_init_31 (zz : Nat × Nat) (r : mx_T) (ls : mx_L) (st : List Value) (h : mx_H) (c n : Nat) : mx_G r (t_Mo_init zz) 31 ls st h c n = (o_newi 22 250 .boolean) r (mx_G r (t_Mo_init zz)) 31 ls st h c n := mx_G_eq (tm_Mo_init zz) r 31 ls st h c n
theorem st_Mo_init_33 (zz : Nat × Nat) (r : mx_T) (ls : mx_L) (st : List Value) (h : mx_H) (c n : Nat) : mx_G r (t_Mo_init zz) 33 ls st h c n = (o_put 10 4 mx_vA) r (mx_G r (t_Mo_init zz)) 33 ls st h c n := mx_G_eq (tm_Mo_init zz) r 33 ls st h c n
theorem st_Mo_init_36 (zz : Nat × Nat) (r : mx_T) (ls : mx_L) (st : List Value) (h : mx_H) (c n : Nat) : mx_G r (t_Mo_init zz) 36 ls st h c n = (o_aload 1 0) r (mx_G r (t_Mo_init zz)) 36 ls st h c n := mx_G_eq (tm_Mo_init zz) r 36 ls st h c n
theorem st_Mo_init_37 (zz : Nat × Nat) (r : mx_T) (ls : mx_L) (st : List Value) (h : mx_H) (c n : Nat) : mx_G r (t_Mo_init zz) 37 ls st h c n = (o_push 2 (.int 8)) r (mx_G r (t_Mo_init zz)) 37 ls st h c n := mx_G_eq (tm_Mo_init zz) r 37 ls st h c n
theorem st_Mo_init_39 (zz : Nat × Nat) (r : mx_T) (ls : mx_L) (st : List Value) (h : mx_H) (c n : Nat) : mx_G r (t_Mo_init zz) 39 ls st h c n = (o_newi 22 250 .boolean) r (mx_G r (t_Mo_init zz)) 39 ls st h c n := mx_G_eq (tm_Mo_init zz) r 39 ls st h c n
theorem st_Mo_init_41 (zz : Nat × Nat) (r : mx_T) (ls : mx_L) (st : List Value) (h : mx_H) (c n : Nat) : mx_G r (t_Mo_init zz) 41 ls st h c n = (o_put 10 5 mx_vA) r (mx_G r (t_Mo_init zz)) 41 ls st h c n := mx_G_eq (tm_Mo_init zz) r 41 ls st h c n
theorem st_Mo_init_44 (zz : Nat × Nat) (r : mx_T) (ls : mx_L) (st : List Value) (h : mx_H) (c n : Nat) : mx_G r (t_Mo_init zz) 44 ls st h c n = (o_aload 1 0) r (mx_G r (t_Mo_init zz)) 44 ls st h c n := mx_G_eq (tm_Mo_init zz) r 44 ls st h c n
theorem st_Mo_init_45 (zz : Nat × Nat) (r : mx_T) (ls : mx_L) (st : List Value) (h : mx_H) (c n : Nat) : mx_G r (t_Mo_init zz) 45 ls st h c n = (o_push 2 (.int 8)) r (mx_G r (t_Mo_init zz)) 45 ls st h c n := mx_G_eq (tm_Mo_init zz) r 45 ls st h c n
theorem st_Mo_init_47 (zz : Nat × Nat) (r : mx_T) (ls : mx_L) (st : List Value) (h : mx_H) (c n : Nat) : mx_G r (t_Mo_init zz) 47 ls st h c n = (o_newi 22 250 .int) r (mx_G r (t_Mo_init zz)) 47 ls st h c n := mx_G_eq (tm_Mo_init zz) r 47 ls st h c n
theorem st_Mo_init_49 (zz : Nat × Nat) (r : mx_T) (ls : mx_L) (st : List Value) (h : mx_H) (c n : Nat) : mx_G r (t_Mo_init zz) 49 ls st h c n = (o_put 10 6 mx_vA) r (mx_G r (t_Mo_init zz)) 49 ls st h c n := mx_G_eq (tm_Mo_init zz) r 49 ls st h c n
theorem st_Mo_init_52 (zz : Nat × Nat) (r : mx_T) (ls : mx_L) (st : List Value) (h : mx_H) (c n : Nat) : mx_G r (t_Mo_init zz) 52 ls st h c n = (o_aload 1 0) r (mx_G r (t_Mo_init zz)) 52 ls st h c n := mx_G_eq (tm_Mo_init zz) r 52 ls st h c n
theorem st_Mo_init_53 (zz : Nat × Nat) (r : mx_T) (ls : mx_L) (st : List Value) (h : mx_H) (c n : Nat) : mx_G r (t_Mo_init zz) 53 ls st h c n = (o_push 2 (.int 16)) r (mx_G r (t_Mo_init zz)) 53 ls st h c n := mx_G_eq (tm_Mo_init zz) r 53 ls st h c n
theorem st_Mo_init_55 (zz : Nat × Nat) (r : mx_T) (ls : mx_L) (st : List Value) (h : mx_H) (c n : Nat) : mx_G r (t_Mo_init zz) 55 ls st h c n = (o_newi 22 250 .int) r (mx_G r (t_Mo_init zz)) 55 ls st h c n := mx_G_eq (tm_Mo_init zz) r 55 ls st h c n
theorem st_Mo_init_57 (zz : Nat × Nat) (r : mx_T) (ls : mx_L) (st : List Value) (h : mx_H) (c n : Nat) : mx_G r (t_Mo_init zz) 57 ls st h c n = (o_put 10 8 mx_vA) r (mx_G r (t_Mo_init zz)) 57 ls st h c n := mx_G_eq (tm_Mo_init zz) r 57 ls st h c n
theorem st_Mo_init_60 (zz : Nat × Nat) (r : mx_T) (ls : mx_L) (st : List Value) (h : mx_H) (c n : Nat) : mx_G r (t_Mo_init zz) 60 ls st h c n = (o_aload 1 0) r (mx_G r (t_Mo_init zz)) 60 ls st h c n := mx_G_eq (tm_Mo_init zz) r 60 ls st h c n
theorem st_Mo_init_61 (zz : Nat × Nat) (r : mx_T) (ls : mx_L) (st : List Value) (h : mx_H) (c n : Nat) : mx_G r (t_Mo_init zz) 61 ls st h c n = (o_push 2 (.int 16)) r (mx_G r (t_Mo_init zz)) 61 ls st h c n := mx_G_eq (tm_Mo_init zz) r 61 ls st h c n
theorem st_Mo_init_63 (zz : Nat × Nat) (r : mx_T) (ls : mx_L) (st : List Value) (h : mx_H) (c n : Nat) : mx_G r (t_Mo_init zz) 63 ls st h c n = (o_newi 22 250 .int) r (mx_G r (t_Mo_init zz)) 63 ls st h c n := mx_G_eq (tm_Mo_init zz) r 63 ls st h c n
theorem st_Mo_init_65 (zz : Nat × Nat) (r : mx_T) (ls : mx_L) (st : List Value) (h : mx_H) (c n : Nat) : mx_G r (t_Mo_init zz) 65 ls st h c n = (o_put 10 9 mx_vA) r (mx_G r (t_Mo_init zz)) 65 ls st h c n := mx_G_eq (tm_Mo_init zz) r 65 ls st h c n
theorem st_Mo_init_68 (zz : Nat × Nat) (r : mx_T) (ls : mx_L) (st : List Value) (h : mx_H) (c n : Nat) : mx_G r (t_Mo_init zz) 68 ls st h c n = (o_aload 1 0) r (mx_G r (t_Mo_init zz)) 68 ls st h c n := mx_G_eq (tm_Mo_init zz) r 68 ls st h c n
theorem st_Mo_init_69 (zz : Nat × Nat) (r : mx_T) (ls : mx_L) (st : List Value) (h : mx_H) (c n : Nat) : mx_G r (t_Mo_init zz) 69 ls st h c n = (o_push 2 (.int 16)) r (mx_G r (t_Mo_init zz)) 69 ls st h c n := mx_G_eq (tm_Mo_init zz) r 69 ls st h c n
theorem st_Mo_init_71 (zz : Nat × Nat) (r : mx_T) (ls : mx_L) (st : List Value) (h : mx_H) (c n : Nat) : mx_G r (t_Mo_init zz) 71 ls st h c n = (o_newi 22 250 .int) r (mx_G r (t_Mo_init zz)) 71 ls st h c n := mx_G_eq (tm_Mo_init zz) r 71 ls st h c n
theorem st_Mo_init_73 (zz : Nat × Nat) (r : mx_T) (ls : mx_L) (st : List Value) (h : mx_H) (c n : Nat) : mx_G r (t_Mo_init zz) 73 ls st h c n = (o_put 10 10 mx_vA) r (mx_G r (t_Mo_init zz)) 73 ls st h c n := mx_G_eq (tm_Mo_init zz) r 73 ls st h c n
theorem st_Mo_init_76 (zz : Nat × Nat) (r : mx_T) (ls : mx_L) (st : List Value) (h : mx_H) (c n : Nat) : mx_G r (t_Mo_init zz) 76 ls st h c n = (o_aload 1 0) r (mx_G r (t_Mo_init zz)) 76 ls st h c n := mx_G_eq (tm_Mo_init zz) r 76 ls st h c n
theorem st_Mo_init_77 (zz : Nat × Nat) (r : mx_T) (ls : mx_L) (st : List Value) (h : mx_H) (c n : Nat) : mx_G r (t_Mo_init zz) 77 ls st h c n = (o_push 2 (.int 16)) r (mx_G r (t_Mo_init zz)) 77 ls st h c n := mx_G_eq (tm_Mo_init zz) r 77 ls st h c n
theorem st_Mo_init_79 (zz : Nat × Nat) (r : mx_T) (ls : mx_L) (st : List Value) (h : mx_H) (c n : Nat) : mx_G r (t_Mo_init zz) 79 ls st h c n = (o_newi 22 250 .int) r (mx_G r (t_Mo_init zz)) 79 ls st h c n := mx_G_eq (tm_Mo_init zz) r 79 ls st h c n
theorem st_Mo_init_81 (zz : Nat × Nat) (r : mx_T) (ls : mx_L) (st : List Value) (h : mx_H) (c n : Nat) : mx_G r (t_Mo_init zz) 81 ls st h c n = (o_put 10 11 mx_vA) r (mx_G r (t_Mo_init zz)) 81 ls st h c n := mx_G_eq (tm_Mo_init zz) r 81 ls st h c n
theorem st_Mo_init_84 (zz : Nat × Nat) (r : mx_T) (ls : mx_L) (st : List Value) (h : mx_H) (c n : Nat) : mx_G r (t_Mo_init zz) 84 ls st h c n = (o_aload 1 0) r (mx_G r (t_Mo_init zz)) 84 ls st h c n := mx_G_eq (tm_Mo_init zz) r 84 ls st h c n
theorem st_Mo_init_85 (zz : Nat × Nat) (r : mx_T) (ls : mx_L) (st : List Value) (h : mx_H) (c n : Nat) : mx_G r (t_Mo_init zz) 85 ls st h c n = (o_push 2 (.int 16)) r (mx_G r (t_Mo_init zz)) 85 ls st h c n := mx_G_eq (tm_Mo_init zz) r 85 ls st h c n
theorem st_Mo_init_87 (zz : Nat × Nat) (r : mx_T) (ls : mx_L) (st : List Value) (h : mx_H) (c n : Nat) : mx_G r (t_Mo_init zz) 87 ls st h c n = (o_newi 22 250 .int) r (mx_G r (t_Mo_init zz)) 87 ls st h c n := mx_G_eq (tm_Mo_init zz) r 87 ls st h c n
theorem st_Mo_init_89 (zz : Nat × Nat) (r : mx_T) (ls : mx_L) (st : List Value) (h : mx_H) (c n : Nat) : mx_G r (t_Mo_init zz) 89 ls st h c n = (o_put 10 12 mx_vA) r (mx_G r (t_Mo_init zz)) 89 ls st h c n := mx_G_eq (tm_Mo_init zz) r 89 ls st h c n
theorem st_Mo_init_92 (zz : Nat × Nat) (r : mx_T) (ls : mx_L) (st : List Value) (h : mx_H) (c n : Nat) : mx_G r (t_Mo_init zz) 92 ls st h c n = (o_aload 1 0) r (mx_G r (t_Mo_init zz)) 92 ls st h c n := mx_G_eq (tm_Mo_init zz) r 92 ls st h c n
theorem st_Mo_init_93 (zz : Nat × Nat) (r : mx_T) (ls : mx_L) (st : List Value) (h : mx_H) (c n : Nat) : mx_G r (t_Mo_init zz) 93 ls st h c n = (o_push 2 (.int 16)) r (mx_G r (t_Mo_init zz)) 93 ls st h c n := mx_G_eq (tm_Mo_init zz) r 93 ls st h c n
theorem st_Mo_init_95 (zz : Nat × Nat) (r : mx_T) (ls : mx_L) (st : List Value) (h : mx_H) (c n : Nat) : mx_G r (t_Mo_init zz) 95 ls st h c n = (o_newi 22 250 .boolean) r (mx_G r (t_Mo_init zz)) 95 ls st h c n := mx_G_eq (tm_Mo_init zz) r 95 ls st h c n
theorem st_Mo_init_97 (zz : Nat × Nat) (r : mx_T) (ls : mx_L) (st : List Value) (h : mx_H) (c n : Nat) : mx_G r (t_Mo_init zz) 97 ls st h c n = (o_put 10 13 mx_vA) r (mx_G r (t_Mo_init zz)) 97 ls st h c n := mx_G_eq (tm_Mo_init zz) r 97 ls st h c n
theorem st_Mo_init_100 (zz : Nat × Nat) (r : mx_T) (ls : mx_L) (st : List Value) (h : mx_H) (c n : Nat) : mx_G r (t_Mo_init zz) 100 ls st h c n = (o_aload 1 0) r (mx_G r (t_Mo_init zz)) 100 ls st h c n := mx_G_eq (tm_Mo_init zz) r 100 ls st h c n
theorem st_Mo_init_101 (zz : Nat × Nat) (r : mx_T) (ls : mx_L) (st : List Value) (h : mx_H) (c n : Nat) : mx_G r (t_Mo_init zz) 101 ls st h c n = (o_push 2 (.int 6)) r (mx_G r (t_Mo_init zz)) 101 ls st h c n := mx_G_eq (tm_Mo_init zz) r 101 ls st h c n
theorem st_Mo_init_103 (zz : Nat × Nat) (r : mx_T) (ls : mx_L) (st : List Value) (h : mx_H) (c n : Nat) : mx_G r (t_Mo_init zz) 103 ls st h c n = (o_newi 22 250 .int) r (mx_G r (t_Mo_init zz)) 103 ls st h c n := mx_G_eq (tm_Mo_init zz) r 103 ls st h c n
theorem st_Mo_init_105 (zz : Nat × Nat) (r : mx_T) (ls : mx_L) (st : List Value) (h : mx_H) (c n : Nat) : mx_G r (t_Mo_init zz) 105 ls st h c n = (o_put 10 15 mx_vA) r (mx_G r (t_Mo_init zz)) 105 ls st h c n := mx_G_eq (tm_Mo_init zz) r 105 ls st h c n
theorem st_Mo_init_108 (zz : Nat × Nat) (r : mx_T) (ls : mx_L) (st : List Value) (h : mx_H) (c n : Nat) : mx_G r (t_Mo_init zz) 108 ls st h c n = (o_aload 1 0) r (mx_G r (t_Mo_init zz)) 108 ls st h c n := mx_G_eq (tm_Mo_init zz) r 108 ls st h c n
theorem st_Mo_init_109 (zz : Nat × Nat) (r : mx_T) (ls : mx_L) (st : List Value) (h : mx_H) (c n : Nat) : mx_G r (t_Mo_init zz) 109 ls st h c n = (o_push 1 (.int 2)) r (mx_G r (t_Mo_init zz)) 109 ls st h c n := mx_G_eq (tm_Mo_init zz) r 109 ls st h c n
theorem st_Mo_init_110 (zz : Nat × Nat) (r : mx_T) (ls : mx_L) (st : List Value) (h : mx_H) (c n : Nat) : mx_G r (t_Mo_init zz) 110 ls st h c n = (o_newi 22 250 .int) r (mx_G r (t_Mo_init zz)) 110 ls st h c n := mx_G_eq (tm_Mo_init zz) r 110 ls st h c n
theorem st_Mo_init_112 (zz : Nat × Nat) (r : mx_T) (ls : mx_L) (st : List Value) (h : mx_H) (c n : Nat) : mx_G r (t_Mo_init zz) 112 ls st h c n = (o_put 10 17 mx_vA) r (mx_G r (t_Mo_init zz)) 112 ls st h c n := mx_G_eq (tm_Mo_init zz) r 112 ls st h c n
theorem st_Mo_init_115 (zz : Nat × Nat) (r : mx_T) (ls : mx_L) (st : List Value) (h : mx_H) (c n : Nat) : mx_G r (t_Mo_init zz) 115 ls st h c n = (o_aload 1 0) r (mx_G r (t_Mo_init zz)) 115 ls st h c n := mx_G_eq (tm_Mo_init zz) r 115 ls st h c n
theorem st_Mo_init_116 (zz : Nat × Nat) (r : mx_T) (ls : mx_L) (st : List Value) (h : mx_H) (c n : Nat) : mx_G r (t_Mo_init zz) 116 ls st h c n = (o_push 2 (.int 6)) r (mx_G r (t_Mo_init zz)) 116 ls st h c n := mx_G_eq (tm_Mo_init zz) r 116 ls st h c n
theorem st_Mo_init_118 (zz : Nat × Nat) (r : mx_T) (ls : mx_L) (st : List Value) (h : mx_H) (c n : Nat) : mx_G r (t_Mo_init zz) 118 ls st h c n = (o_newi 22 250 .int) r (mx_G r (t_Mo_init zz)) 118 ls st h c n := mx_G_eq (tm_Mo_init zz) r 118 ls st h c n
theorem st_Mo_init_120 (zz : Nat × Nat) (r : mx_T) (ls : mx_L) (st : List Value) (h : mx_H) (c n : Nat) : mx_G r (t_Mo_init zz) 120 ls st h c n = (o_put 10 18 mx_vA) r (mx_G r (t_Mo_init zz)) 120 ls st h c n := mx_G_eq (tm_Mo_init zz) r 120 ls st h c n
theorem st_Mo_init_123 (zz : Nat × Nat) (r : mx_T) (ls : mx_L) (st : List Value) (h : mx_H) (c n : Nat) : mx_G r (t_Mo_init zz) 123 ls st h c n = (o_aload 1 0) r (mx_G r (t_Mo_init zz)) 123 ls st h c n := mx_G_eq (tm_Mo_init zz) r 123 ls st h c n
theorem st_Mo_init_124 (zz : Nat × Nat) (r : mx_T) (ls : mx_L) (st : List Value) (h : mx_H) (c n : Nat) : mx_G r (t_Mo_init zz) 124 ls st h c n = (o_push 1 (.int 2)) r (mx_G r (t_Mo_init zz)) 124 ls st h c n := mx_G_eq (tm_Mo_init zz) r 124 ls st h c n
theorem st_Mo_init_125 (zz : Nat × Nat) (r : mx_T) (ls : mx_L) (st : List Value) (h : mx_H) (c n : Nat) : mx_G r (t_Mo_init zz) 125 ls st h c n = (o_newi 22 250 .int) r (mx_G r (t_Mo_init zz)) 125 ls st h c n := mx_G_eq (tm_Mo_init zz) r 125 ls st h c n
theorem st_Mo_init_127 (zz : Nat × Nat) (r : mx_T) (ls : mx_L) (st : List Value) (h : mx_H) (c n : Nat) : mx_G r (t_Mo_init zz) 127 ls st h c n = (o_put 10 19 mx_vA) r (mx_G r (t_Mo_init zz)) 127 ls st h c n := mx_G_eq (tm_Mo_init zz) r 127 ls st h c n
theorem st_Mo_init_130 (zz : Nat × Nat) (r : mx_T) (ls : mx_L) (st : List Value) (h : mx_H) (c n : Nat) : mx_G r (t_Mo_init zz) 130 ls st h c n = (o_aload 1 0) r (mx_G r (t_Mo_init zz)) 130 ls st h c n := mx_G_eq (tm_Mo_init zz) r 130 ls st h c n
theorem st_Mo_init_131 (zz : Nat × Nat) (r : mx_T) (ls : mx_L) (st : List Value) (h : mx_H) (c n : Nat) : mx_G r (t_Mo_init zz) 131 ls st h c n = (o_push 1 (.int 3)) r (mx_G r (t_Mo_init zz)) 131 ls st h c n := mx_G_eq (tm_Mo_init zz) r 131 ls st h c n
theorem st_Mo_init_132 (zz : Nat × Nat) (r : mx_T) (ls : mx_L) (st : List Value) (h : mx_H) (c n : Nat) : mx_G r (t_Mo_init zz) 132 ls st h c n = (o_newi 22 250 .int) r (mx_G r (t_Mo_init zz)) 132 ls st h c n := mx_G_eq (tm_Mo_init zz) r 132 ls st h c n
theorem st_Mo_init_134 (zz : Nat × Nat) (r : mx_T) (ls : mx_L) (st : List Value) (h : mx_H) (c n : Nat) : mx_G r (t_Mo_init zz) 134 ls st h c n = (o_put 10 20 mx_vA) r (mx_G r (t_Mo_init zz)) 134 ls st h c n := mx_G_eq (tm_Mo_init zz) r 134 ls st h c n
theorem st_Mo_init_137 (zz : Nat × Nat) (r : mx_T) (ls : mx_L) (st : List Value) (h : mx_H) (c n : Nat) : mx_G r (t_Mo_init zz) 137 ls st h c n = (o_aload 1 0) r (mx_G r (t_Mo_init zz)) 137 ls st h c n := mx_G_eq (tm_Mo_init zz) r 137 ls st h c n
theorem st_Mo_init_138 (zz : Nat × Nat) (r : mx_T) (ls : mx_L) (st : List Value) (h : mx_H) (c n : Nat) : mx_G r (t_Mo_init zz) 138 ls st h c n = (o_push 2 (.int 24)) r (mx_G r (t_Mo_init zz)) 138 ls st h c n := mx_G_eq (tm_Mo_init zz) r 138 ls st h c n
theorem st_Mo_init_140 (zz : Nat × Nat) (r : mx_T) (ls : mx_L) (st : List Value) (h : mx_H) (c n : Nat) : mx_G r (t_Mo_init zz) 140 ls st h c n = (o_newi 22 250 .int) r (mx_G r (t_Mo_init zz)) 140 ls st h c n := mx_G_eq (tm_Mo_init zz) r 140 ls st h c n
theorem st_Mo_init_142 (zz : Nat × Nat) (r : mx_T) (ls : mx_L) (st : List Value) (h : mx_H) (c n : Nat) : mx_G r (t_Mo_init zz) 142 ls st h c n = (o_put 10 21 mx_vA) r (mx_G r (t_Mo_init zz)) 142 ls st h c n := mx_G_eq (tm_Mo_init zz) r 142 ls st h c n
theorem st_Mo_init_145 (zz : Nat × Nat) (r : mx_T) (ls : mx_L) (st : List Value) (h : mx_H) (c n : Nat) : mx_G r (t_Mo_init zz) 145 ls st h c n = (o_aload 1 0) r (mx_G r (t_Mo_init zz)) 145 ls st h c n := mx_G_eq (tm_Mo_init zz) r 145 ls st h c n
theorem st_Mo_init_146 (zz : Nat × Nat) (r : mx_T) (ls : mx_L) (st : List Value) (h : mx_H) (c n : Nat) : mx_G r (t_Mo_init zz) 146 ls st h c n = (o_push 2 (.int 24)) r (mx_G r (t_Mo_init zz)) 146 ls st h c n := mx_G_eq (tm_Mo_init zz) r 146 ls st h c n
theorem st_Mo_init_148 (zz : Nat × Nat) (r : mx_T) (ls : mx_L) (st : List Value) (h : mx_H) (c n : Nat) : mx_G r (t_Mo_init zz) 148 ls st h c n = (o_newi 22 250 .int) r (mx_G r (t_Mo_init zz)) 148 ls st h c n := mx_G_eq (tm_Mo_init zz) r 148 ls st h c n
theorem st_Mo_init_150 (zz : Nat × Nat) (r : mx_T) (ls : mx_L) (st : List Value) (h : mx_H) (c n : Nat) : mx_G r (t_Mo_init zz) 150 ls st h c n = (o_put 10 22 mx_vA) r (mx_G r (t_Mo_init zz)) 150 ls st h c n := mx_G_eq (tm_Mo_init zz) r 150 ls st h c n
theorem st_Mo_init_153 (zz : Nat × Nat) (r : mx_T) (ls : mx_L) (st : List Value) (h : mx_H) (c n : Nat) : mx_G r (t_Mo_init zz) 153 ls st h c n = (o_aload 1 0) r (mx_G r (t_Mo_init zz)) 153 ls st h c n := mx_G_eq (tm_Mo_init zz) r 153 ls st h c n
theorem st_Mo_init_154 (zz : Nat × Nat) (r : mx_T) (ls : mx_L) (st : List Value) (h : mx_H) (c n : Nat) : mx_G r (t_Mo_init zz) 154 ls st h c n = (o_push 2 (.int 24)) r (mx_G r (t_Mo_init zz)) 154 ls st h c n := mx_G_eq (tm_Mo_init zz) r 154 ls st h c n
theorem st_Mo_init_156 (zz : Nat × Nat) (r : mx_T) (ls : mx_L) (st : List Value) (h : mx_H) (c n : Nat) : mx_G r (t_Mo_init zz) 156 ls st h c n = (o_newi 22 250 .int) r (mx_G r (t_Mo_init zz)) 156 ls st h c n := mx_G_eq (tm_Mo_init zz) r 156 ls st h c n
theorem st_Mo_init_158 (zz : Nat × Nat) (r : mx_T) (ls : mx_L) (st : List Value) (h : mx_H) (c n : Nat) : mx_G r (t_Mo_init zz) 158 ls st h c n = (o_put 10 23 mx_vA) r (mx_G r (t_Mo_init zz)) 158 ls st h c n := mx_G_eq (tm_Mo_init zz) r 158 ls st h c n
theorem st_Mo_init_161 (zz : Nat × Nat) (r : mx_T) (ls : mx_L) (st : List Value) (h : mx_H) (c n : Nat) : mx_G r (t_Mo_init zz) 161 ls st h c n = (o_aload 1 0) r (mx_G r (t_Mo_init zz)) 161 ls st h c n := mx_G_eq (tm_Mo_init zz) r 161 ls st h c n
theorem st_Mo_init_162 (zz : Nat × Nat) (r : mx_T) (ls : mx_L) (st : List Value) (h : mx_H) (c n : Nat) : mx_G r (t_Mo_init zz) 162 ls st h c n = (o_push 1 (.int (-1))) r (mx_G r (t_Mo_init zz)) 162 ls st h c n := mx_G_eq (tm_Mo_init zz) r 162 ls st h c n
theorem st_Mo_init_163 (zz : Nat × Nat) (r : mx_T) (ls : mx_L) (st : List Value) (h : mx_H) (c n : Nat) : mx_G r (t_Mo_init zz) 163 ls st h c n = (o_put 10 32 mx_vI) r (mx_G r (t_Mo_init zz)) 163 ls st h c n := mx_G_eq (tm_Mo_init zz) r 163 ls st h c n
theorem st_Mo_init_166 (zz : Nat × Nat) (r : mx_T) (ls : mx_L) (st : List Value) (h : mx_H) (c n : Nat) : mx_G r (t_Mo_init zz) 166 ls st h c n = (o_aload 1 0) r (mx_G r (t_Mo_init zz)) 166 ls st h c n := mx_G_eq (tm_Mo_init zz) r 166 ls st h c n
theorem st_Mo_init_167 (zz : Nat × Nat) (r : mx_T) (ls : mx_L) (st : List Value) (h : mx_H) (c n : Nat) : mx_G r (t_Mo_init zz) 167 ls st h c n = (o_push 2 (.int 10)) r (mx_G r (t_Mo_init zz)) 167 ls st h c n := mx_G_eq (tm_Mo_init zz) r 167 ls st h c n
theorem st_Mo_init_169 (zz : Nat × Nat) (r : mx_T) (ls : mx_L) (st : List Value) (h : mx_H) (c n : Nat) : mx_G r (t_Mo_init zz) 169 ls st h c n = (o_newi 22 250 .int) r (mx_G r (t_Mo_init zz)) 169 ls st h c n := mx_G_eq (tm_Mo_init zz) r 169 ls st h c n
theorem st_Mo_init_171 (zz : Nat × Nat) (r : mx_T) (ls : mx_L) (st : List Value) (h : mx_H) (c n : Nat) : mx_G r (t_Mo_init zz) 171 ls st h c n = (o_put 10 35 mx_vA) r (mx_G r (t_Mo_init zz)) 171 ls st h c n := mx_G_eq (tm_Mo_init zz) r 171 ls st h c n
theorem st_Mo_init_174 (zz : Nat × Nat) (r : mx_T) (ls : mx_L) (st : List Value) (h : mx_H) (c n : Nat) : mx_G r (t_Mo_init zz) 174 ls st h c n = (o_aload 1 0) r (mx_G r (t_Mo_init zz)) 174 ls st h c n := mx_G_eq (tm_Mo_init zz) r 174 ls st h c n
theorem st_Mo_init_175 (zz : Nat × Nat) (r : mx_T) (ls : mx_L) (st : List Value) (h : mx_H) (c n : Nat) : mx_G r (t_Mo_init zz) 175 ls st h c n = (o_push 1 (.int 5)) r (mx_G r (t_Mo_init zz)) 175 ls st h c n := mx_G_eq (tm_Mo_init zz) r 175 ls st h c n
set_option maxRecDepth 20000 in
theorem st_Mo_init_176 (zz : Nat × Nat) (r : mx_T) (ls : mx_L) (st : List Value) (h : mx_H) (c n : Nat) : mx_G r (t_Mo_init zz) 176 ls st h c n = (o_newi 22 250 .int) r (mx_G r (t_Mo_init zz)) 176 ls st h c n := mx_G_eq (tm_Mo_init zz) r 176 ls st h c n
set_option maxRecDepth 20000 in
theorem st_Mo_init_178 (zz : Nat × Nat) (r : mx_T) (ls : mx_L) (st : List Value) (h : mx_H) (c n : Nat) : mx_G r (t_Mo_init zz) 178 ls st h c n = (o_put 10 39 mx_vA) r (mx_G r (t_Mo_init zz)) 178 ls st h c n := mx_G_eq (tm_Mo_init zz) r 178 ls st h c n
set_option maxRecDepth 20000 in
theorem st_Mo_init_181 (zz : Nat × Nat) (r : mx_T) (ls : mx_L) (st : List Value) (h : mx_H) (c n : Nat) : mx_G r (t_Mo_init zz) 181 ls st h c n = (o_vret) r (mx_G r (t_Mo_init zz)) 181 ls st h c n := mx_G_eq (tm_Mo_init zz) r 181 ls st h c n
theorem d_Mo_within_0 : decode c_Mo_within 0 = .ok (.iload_n 0, 1) := by decide +kernel
theorem d_Mo_within_1 : decode c_Mo_within 1 = .ok (.iload_n 1, 1) := by decide +kernel
theorem d_Mo_within_2 : decode c_Mo_within 2 = .ok (.if_icmp .lt 12, 3) := by decide +kernel
theorem d_Mo_within_5 : decode c_Mo_within 5 = .ok (.iload_n 0, 1) := by decide +kernel
theorem d_Mo_within_6 : decode c_Mo_within 6 = .ok (.iload_n 2, 1) := by decide +kernel
theorem d_Mo_within_7 : decode c_Mo_within 7 = .ok (.if_icmp .gt 7, 3) := by decide +kernel
theorem d_Mo_within_10 : decode c_Mo_within 10 = .ok (.iconst 1, 1) := by decide +kernel
theorem d_Mo_within_11 : decode c_Mo_within 11 = .ok (.goto 4, 3) := by decide +kernel
theorem d_Mo_within_14 : decode c_Mo_within 14 = .ok (.iconst 0, 1) := by decide +kernel
theorem d_Mo_within_15 : decode c_Mo_within 15 = .ok (.ireturn, 1) := by decide +kernel
def t_Mo_within (zz : Nat × Nat) : List (Nat × mx_O) := [(0, o_iload 1 0),
  (1, o_iload 1 1),
  (2, o_icmp 14 (fun x y => x < y)),
  (5, o_iload 1 0),
  (6, o_iload 1 2),
  (7, o_icmp 14 (fun x y => y < x)),
  (10, o_push 1 (.int 1)),
  (11, o_goto 15),
  (14, o_push 1 (.int 0)),
  (15, o_zret)]
set_option maxRecDepth 100000 in
theorem tm_Mo_within (zz : Nat × Nat) : mx_All (fun _ o => mx_Mono o) (t_Mo_within zz) := by
  refine mx_all_cons (mo_st) ?_
  refine mx_all_cons (mo_st) ?_
  refine mx_all_cons (mo_br) ?_
  refine mx_all_cons (mo_st) ?_
  refine mx_all_cons (mo_st) ?_
  refine mx_all_cons (mo_br) ?_
  refine mx_all_cons (mo_st) ?_
  refine mx_all_cons (mo_st) ?_
  refine mx_all_cons (mo_st) ?_
  refine mx_all_cons (mo_zret) ?_
  exact mx_all_nil
def S_Mo_within (zz : Nat × Nat) : mx_Sp := mx_S 3 0 0 (t_Mo_within zz)
theorem sm_Mo_within (zz : Nat × Nat) : mx_SMono (S_Mo_within zz) := mx_S_mono (tm_Mo_within zz)
abbrev rm_Mo_within : Room := { frames := 0, cells := 0, slots := 0, locals := 0 }
set_option maxHeartbeats 4000000 in
set_option maxRecDepth 100000 in
theorem m_Mo_within (l : Launch) (zz : Nat × Nat) : mx_Met l y_Mo_within (wsOf y_Mo_within c_Mo_within 3 (some .boolean)) rm_Mo_within wcl (mx_Z zz) 0 0 (S_Mo_within zz) := by
  refine mx_met (cc := c_Mo_within) (ret := (some .boolean)) (by decide) rfl ?_
  intro p e s m args below meth c D A Post X hz hr hlk hnm
  have hm : ∀ w ∈ mw, w.before args s = true := fun w h => X.1.2.2.2.2 w (List.mem_cons_of_mem _ h)
  refine mx_all_cons (ok_iload (fun hl kk => lv_iload_n X.1.1 X.1.2.1 d_Mo_within_0 rfl hl kk)) ?_
  refine mx_all_cons (ok_iload (fun hl kk => lv_iload_n X.1.1 X.1.2.1 d_Mo_within_1 rfl hl kk)) ?_
  refine mx_all_cons (ok_icmp (fun kt kf => lv_icmp_lt X.1.1 X.1.2.1 d_Mo_within_2 (by decide) kt kf)) ?_
  refine mx_all_cons (ok_iload (fun hl kk => lv_iload_n X.1.1 X.1.2.1 d_Mo_within_5 rfl hl kk)) ?_
  refine mx_all_cons (ok_iload (fun hl kk => lv_iload_n X.1.1 X.1.2.1 d_Mo_within_6 rfl hl kk)) ?_
  refine mx_all_cons (ok_icmp (fun kt kf => lv_icmp_gt X.1.1 X.1.2.1 d_Mo_within_7 (by decide) kt kf)) ?_
  refine mx_all_cons (ok_push (fun kk => lv_iconst X.1.1 X.1.2.1 d_Mo_within_10 (by decide) kk)) ?_
  refine mx_all_cons (ok_goto X d_Mo_within_11 (by decide)) ?_
  refine mx_all_cons (ok_push (fun kk => lv_iconst X.1.1 X.1.2.1 d_Mo_within_14 (by decide) kk)) ?_
  refine mx_all_cons (ok_zret X hr hlk d_Mo_within_15) ?_
  exact mx_all_nil
theorem st_Mo_within_0 (zz : Nat × Nat) (r : mx_T) (ls : mx_L) (st : List Value) (h : mx_H) (c n : Nat) : mx_G r (t_Mo_within zz) 0 ls st h c n = (o_iload 1 0) r (mx_G r (t_Mo_within zz)) 0 ls st h c n := mx_G_eq (tm_Mo_within zz) r 0 ls st h c n
theorem st_Mo_within_1 (zz : Nat × Nat) (r : mx_T) (ls : mx_L) (st : List Value) (h : mx_H) (c n : Nat) : mx_G r (t_Mo_within zz) 1 ls st h c n = (o_iload 1 1) r (mx_G r (t_Mo_within zz)) 1 ls st h c n := mx_G_eq (tm_Mo_within zz) r 1 ls st h c n
theorem st_Mo_within_2 (zz : Nat × Nat) (r : mx_T) (ls : mx_L) (st : List Value) (h : mx_H) (c n : Nat) : mx_G r (t_Mo_within zz) 2 ls st h c n = (o_icmp 14 (fun x y => x < y)) r (mx_G r (t_Mo_within zz)) 2 ls st h c n := mx_G_eq (tm_Mo_within zz) r 2 ls st h c n
theorem st_Mo_within_5 (zz : Nat × Nat) (r : mx_T) (ls : mx_L) (st : List Value) (h : mx_H) (c n : Nat) : mx_G r (t_Mo_within zz) 5 ls st h c n = (o_iload 1 0) r (mx_G r (t_Mo_within zz)) 5 ls st h c n := mx_G_eq (tm_Mo_within zz) r 5 ls st h c n
theorem st_Mo_within_6 (zz : Nat × Nat) (r : mx_T) (ls : mx_L) (st : List Value) (h : mx_H) (c n : Nat) : mx_G r (t_Mo_within zz) 6 ls st h c n = (o_iload 1 2) r (mx_G r (t_Mo_within zz)) 6 ls st h c n := mx_G_eq (tm_Mo_within zz) r 6 ls st h c n
theorem st_Mo_within_7 (zz : Nat × Nat) (r : mx_T) (ls : mx_L) (st : List Value) (h : mx_H) (c n : Nat) : mx_G r (t_Mo_within zz) 7 ls st h c n = (o_icmp 14 (fun x y => y < x)) r (mx_G r (t_Mo_within zz)) 7 ls st h c n := mx_G_eq (tm_Mo_within zz) r 7 ls st h c n
theorem st_Mo_within_10 (zz : Nat × Nat) (r : mx_T) (ls : mx_L) (st : List Value) (h : mx_H) (c n : Nat) : mx_G r (t_Mo_within zz) 10 ls st h c n = (o_push 1 (.int 1)) r (mx_G r (t_Mo_within zz)) 10 ls st h c n := mx_G_eq (tm_Mo_within zz) r 10 ls st h c n
theorem st_Mo_within_11 (zz : Nat × Nat) (r : mx_T) (ls : mx_L) (st : List Value) (h : mx_H) (c n : Nat) : mx_G r (t_Mo_within zz) 11 ls st h c n = (o_goto 15) r (mx_G r (t_Mo_within zz)) 11 ls st h c n := mx_G_eq (tm_Mo_within zz) r 11 ls st h c n
theorem st_Mo_within_14 (zz : Nat × Nat) (r : mx_T) (ls : mx_L) (st : List Value) (h : mx_H) (c n : Nat) : mx_G r (t_Mo_within zz) 14 ls st h c n = (o_push 1 (.int 0)) r (mx_G r (t_Mo_within zz)) 14 ls st h c n := mx_G_eq (tm_Mo_within zz) r 14 ls st h c n
theorem st_Mo_within_15 (zz : Nat × Nat) (r : mx_T) (ls : mx_L) (st : List Value) (h : mx_H) (c n : Nat) : mx_G r (t_Mo_within zz) 15 ls st h c n = (o_zret) r (mx_G r (t_Mo_within zz)) 15 ls st h c n := mx_G_eq (tm_Mo_within zz) r 15 ls st h c n
