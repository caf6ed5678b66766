set_option maxHeartbeats 4000000 in
set_option maxRecDepth 100000 in
theorem mt_Mod_init (l : Launch) (D : va_G) (cs : CS) (Z : Nat → Nat) (sz : Nat) {post : HS → Prop} {h : HS} {v0 : Nat}  (hw : wp_Mod_init Z post h v0 ) : Met l y_Mod_init (Cond.code y_Mod_init c_Mod_init 1 none :: WA) ({ frames := 2, cells := 22, slots := 44396, locals := 100 } : Room) (mPc D cs Z h sz [va_rf (some v0)]) (va_Qv post (mB D cs h sz) (fA h sz)) 22 44396 (fA h sz) := by
  refine mx_met (fun sz => va_Qv post (mB D cs h sz) (fA h sz)) (by decide) (by simp [lg_sl, mx_rf_cat, cat_i, cat_l]) ?_
  intro p e s m args below meth c C hR ls hl
  have hl : lv_has ls 1 [(0, va_rf (some v0))] := hl
  obtain ⟨hx, hb, hr, hml, hown, hW, hlocks, hnm, hK, hZ⟩ := id C
  have hown : s.vm.findClass "NetJoinsModel" = some m.cls := hown
  have hA : ∀ q, s.heap.size ≤ q → fA h s.heap.size q := fun _ h => Or.inr h
  unfold wp_Mod_init at hw
  refine mx_aload_n (r := some v0) hx hb d_Mod_init_0 rfl (lv_at hl 0 rfl) ?_
  refine W.objInit hx hb hown (hW _ kw_1134) (hW _ kw_37) (hW _ kw_38) rfl (by rw [hml]; exact hl.1) rfl d_Mod_init_1 (Nat.le_of_ble_eq_true rfl) (Nat.le_of_ble_eq_true rfl) ?_
  refine W.eq (g2 := F0 m 4 ls []) rfl ?_
  refine mx_aload_n (r := some v0) hx hb d_Mod_init_4 rfl (lv_at hl 0 rfl) ?_
  refine lv_bipush (v := 16) hx hb d_Mod_init_5 (by decide) ?_
  refine mx_arr_i (N' := 16) hx hb hW hK.1 hR hA kw_84 (by decide) (by decide) (by decide) (by decide) (by decide) d_Mod_init_7 (fun q1 H tq1 hR => ?_)
  refine W.widen (k := 1) (n := 16) (by first | decide | omega) (by first | decide | omega) ?_
  have hw := hw q1 tq1
  obtain ⟨h2, eh2⟩ : ∃ z, z = nH h q1 1 16 := ⟨_, rfl⟩
  rw [← eh2] at hR
  have hw := hw h2 eh2
  obtain ⟨t3, hw⟩ := hw
  refine mx_putF (ci := 8) (C := "NetJoinsModel") (T := F_Mod) (N := 33) (v := va_rf (some q1)) (h' := sR h2 802 v0 (some q1)) hx hb hW hown hK.1 hR (a := v0) rfl t3 rfl i_Mod t_Mod t_Mod_ok n_Mod 2 2 (by decide) rfl kw_1137 (fun _ h9 => h9) rfl hnm rfl (mx_rf_n _ rfl _).1 (mx_rf_n _ rfl _).2 d_Mod_init_9 rfl (toE_sR (ci := 8) (k := 2) t3 rfl) (fun H locs hR => ?_)
  obtain ⟨h4, eh4⟩ : ∃ z, z = sR h2 802 v0 (some q1) := ⟨_, rfl⟩
  rw [← eh4] at hR
  have hw := hw h4 eh4
  refine mx_aload_n (r := some v0) hx hb d_Mod_init_12 rfl (lv_at hl 0 rfl) ?_
  refine lv_bipush (v := 16) hx hb d_Mod_init_13 (by decide) ?_
  refine mx_arr_i (N' := 16) hx hb hW hK.1 hR hA kw_84 (by decide) (by decide) (by decide) (by decide) (by decide) d_Mod_init_15 (fun q5 H tq5 hR => ?_)
  refine W.widen (k := 2) (n := 32) (by first | decide | omega) (by first | decide | omega) ?_
  have hw := hw q5 tq5
  obtain ⟨h6, eh6⟩ : ∃ z, z = nH h4 q5 1 16 := ⟨_, rfl⟩
  rw [← eh6] at hR
  have hw := hw h6 eh6
  obtain ⟨t7, hw⟩ := hw
  refine mx_putF (ci := 8) (C := "NetJoinsModel") (T := F_Mod) (N := 33) (v := va_rf (some q5)) (h' := sR h6 803 v0 (some q5)) hx hb hW hown hK.1 hR (a := v0) rfl t7 rfl i_Mod t_Mod t_Mod_ok n_Mod 3 2 (by decide) rfl kw_1138 (fun _ h9 => h9) rfl hnm rfl (mx_rf_n _ rfl _).1 (mx_rf_n _ rfl _).2 d_Mod_init_17 rfl (toE_sR (ci := 8) (k := 3) t7 rfl) (fun H locs hR => ?_)
  obtain ⟨h8, eh8⟩ : ∃ z, z = sR h6 803 v0 (some q5) := ⟨_, rfl⟩
  rw [← eh8] at hR
  have hw := hw h8 eh8
  refine mx_aload_n (r := some v0) hx hb d_Mod_init_20 rfl (lv_at hl 0 rfl) ?_
  refine lv_bipush (v := 100) hx hb d_Mod_init_21 (by decide) ?_
  refine mx_arr_i (N' := 100) hx hb hW hK.1 hR hA kw_84 (by decide) (by decide) (by decide) (by decide) (by decide) d_Mod_init_23 (fun q9 H tq9 hR => ?_)
  refine W.widen (k := 3) (n := 132) (by first | decide | omega) (by first | decide | omega) ?_
  have hw := hw q9 tq9
  obtain ⟨h10, eh10⟩ : ∃ z, z = nH h8 q9 1 100 := ⟨_, rfl⟩
  rw [← eh10] at hR
  have hw := hw h10 eh10
  obtain ⟨t11, hw⟩ := hw
  refine mx_putF (ci := 8) (C := "NetJoinsModel") (T := F_Mod) (N := 33) (v := va_rf (some q9)) (h' := sR h10 805 v0 (some q9)) hx hb hW hown hK.1 hR (a := v0) rfl t11 rfl i_Mod t_Mod t_Mod_ok n_Mod 5 2 (by decide) rfl kw_1140 (fun _ h9 => h9) rfl hnm rfl (mx_rf_n _ rfl _).1 (mx_rf_n _ rfl _).2 d_Mod_init_25 rfl (toE_sR (ci := 8) (k := 5) t11 rfl) (fun H locs hR => ?_)
  obtain ⟨h12, eh12⟩ : ∃ z, z = sR h10 805 v0 (some q9) := ⟨_, rfl⟩
  rw [← eh12] at hR
  have hw := hw h12 eh12
  refine mx_aload_n (r := some v0) hx hb d_Mod_init_28 rfl (lv_at hl 0 rfl) ?_
  refine lv_sipush (v := 400) hx hb d_Mod_init_29 (by decide) ?_
  refine mx_arr_l (N' := 400) hx hb hW hK.1 hR hA kw_1235 (by decide) (by decide) (by decide) (by decide) (by decide) d_Mod_init_32 (fun q13 H tq13 hR => ?_)
  refine W.widen (k := 4) (n := 532) (by first | decide | omega) (by first | decide | omega) ?_
  have hw := hw q13 tq13
  obtain ⟨h14, eh14⟩ : ∃ z, z = nH h12 q13 3 400 := ⟨_, rfl⟩
  rw [← eh14] at hR
  have hw := hw h14 eh14
  obtain ⟨t15, hw⟩ := hw
  refine mx_putF (ci := 8) (C := "NetJoinsModel") (T := F_Mod) (N := 33) (v := va_rf (some q13)) (h' := sR h14 806 v0 (some q13)) hx hb hW hown hK.1 hR (a := v0) rfl t15 rfl i_Mod t_Mod t_Mod_ok n_Mod 6 2 (by decide) rfl kw_1141 (fun _ h9 => h9) rfl hnm rfl (mx_rf_n _ rfl _).1 (mx_rf_n _ rfl _).2 d_Mod_init_34 rfl (toE_sR (ci := 8) (k := 6) t15 rfl) (fun H locs hR => ?_)
  obtain ⟨h16, eh16⟩ : ∃ z, z = sR h14 806 v0 (some q13) := ⟨_, rfl⟩
  rw [← eh16] at hR
  have hw := hw h16 eh16
  refine mx_aload_n (r := some v0) hx hb d_Mod_init_37 rfl (lv_at hl 0 rfl) ?_
  refine lv_bipush (v := 100) hx hb d_Mod_init_38 (by decide) ?_
  refine mx_arr_z (N' := 100) hx hb hW hK.1 hR hA kw_119 (by decide) (by decide) (by decide) (by decide) (by decide) d_Mod_init_40 (fun q17 H tq17 hR => ?_)
  refine W.widen (k := 5) (n := 632) (by first | decide | omega) (by first | decide | omega) ?_
  have hw := hw q17 tq17
  obtain ⟨h18, eh18⟩ : ∃ z, z = nH h16 q17 2 100 := ⟨_, rfl⟩
  rw [← eh18] at hR
  have hw := hw h18 eh18
  obtain ⟨t19, hw⟩ := hw
  refine mx_putF (ci := 8) (C := "NetJoinsModel") (T := F_Mod) (N := 33) (v := va_rf (some q17)) (h' := sR h18 807 v0 (some q17)) hx hb hW hown hK.1 hR (a := v0) rfl t19 rfl i_Mod t_Mod t_Mod_ok n_Mod 7 2 (by decide) rfl kw_1142 (fun _ h9 => h9) rfl hnm rfl (mx_rf_n _ rfl _).1 (mx_rf_n _ rfl _).2 d_Mod_init_42 rfl (toE_sR (ci := 8) (k := 7) t19 rfl) (fun H locs hR => ?_)
  obtain ⟨h20, eh20⟩ : ∃ z, z = sR h18 807 v0 (some q17) := ⟨_, rfl⟩
  rw [← eh20] at hR
  have hw := hw h20 eh20
  refine mx_aload_n (r := some v0) hx hb d_Mod_init_45 rfl (lv_at hl 0 rfl) ?_
  refine lv_bipush (v := 50) hx hb d_Mod_init_46 (by decide) ?_
  refine mx_arr_i (N' := 50) hx hb hW hK.1 hR hA kw_84 (by decide) (by decide) (by decide) (by decide) (by decide) d_Mod_init_48 (fun q21 H tq21 hR => ?_)
  refine W.widen (k := 6) (n := 682) (by first | decide | omega) (by first | decide | omega) ?_
  have hw := hw q21 tq21
  obtain ⟨h22, eh22⟩ : ∃ z, z = nH h20 q21 1 50 := ⟨_, rfl⟩
  rw [← eh22] at hR
  have hw := hw h22 eh22
  obtain ⟨t23, hw⟩ := hw
  refine mx_putF (ci := 8) (C := "NetJoinsModel") (T := F_Mod) (N := 33) (v := va_rf (some q21)) (h' := sR h22 809 v0 (some q21)) hx hb hW hown hK.1 hR (a := v0) rfl t23 rfl i_Mod t_Mod t_Mod_ok n_Mod 9 2 (by decide) rfl kw_1144 (fun _ h9 => h9) rfl hnm rfl (mx_rf_n _ rfl _).1 (mx_rf_n _ rfl _).2 d_Mod_init_50 rfl (toE_sR (ci := 8) (k := 9) t23 rfl) (fun H locs hR => ?_)
  obtain ⟨h24, eh24⟩ : ∃ z, z = sR h22 809 v0 (some q21) := ⟨_, rfl⟩
  rw [← eh24] at hR
  have hw := hw h24 eh24
  refine mx_aload_n (r := some v0) hx hb d_Mod_init_53 rfl (lv_at hl 0 rfl) ?_
  refine lv_bipush (v := 100) hx hb d_Mod_init_54 (by decide) ?_
  refine mx_arr_l (N' := 100) hx hb hW hK.1 hR hA kw_1235 (by decide) (by decide) (by decide) (by decide) (by decide) d_Mod_init_56 (fun q25 H tq25 hR => ?_)
  refine W.widen (k := 7) (n := 782) (by first | decide | omega) (by first | decide | omega) ?_
  have hw := hw q25 tq25
  obtain ⟨h26, eh26⟩ : ∃ z, z = nH h24 q25 3 100 := ⟨_, rfl⟩
  rw [← eh26] at hR
  have hw := hw h26 eh26
  obtain ⟨t27, hw⟩ := hw
  refine mx_putF (ci := 8) (C := "NetJoinsModel") (T := F_Mod) (N := 33) (v := va_rf (some q25)) (h' := sR h26 810 v0 (some q25)) hx hb hW hown hK.1 hR (a := v0) rfl t27 rfl i_Mod t_Mod t_Mod_ok n_Mod 10 2 (by decide) rfl kw_1145 (fun _ h9 => h9) rfl hnm rfl (mx_rf_n _ rfl _).1 (mx_rf_n _ rfl _).2 d_Mod_init_58 rfl (toE_sR (ci := 8) (k := 10) t27 rfl) (fun H locs hR => ?_)
  obtain ⟨h28, eh28⟩ : ∃ z, z = sR h26 810 v0 (some q25) := ⟨_, rfl⟩
  rw [← eh28] at hR
  have hw := hw h28 eh28
  refine mx_aload_n (r := some v0) hx hb d_Mod_init_61 rfl (lv_at hl 0 rfl) ?_
  refine lv_bipush (v := 60) hx hb d_Mod_init_62 (by decide) ?_
  refine mx_arr_i (N' := 60) hx hb hW hK.1 hR hA kw_84 (by decide) (by decide) (by decide) (by decide) (by decide) d_Mod_init_64 (fun q29 H tq29 hR => ?_)
  refine W.widen (k := 8) (n := 842) (by first | decide | omega) (by first | decide | omega) ?_
  have hw := hw q29 tq29
  obtain ⟨h30, eh30⟩ : ∃ z, z = nH h28 q29 1 60 := ⟨_, rfl⟩
  rw [← eh30] at hR
  have hw := hw h30 eh30
  obtain ⟨t31, hw⟩ := hw
  refine mx_putF (ci := 8) (C := "NetJoinsModel") (T := F_Mod) (N := 33) (v := va_rf (some q29)) (h' := sR h30 812 v0 (some q29)) hx hb hW hown hK.1 hR (a := v0) rfl t31 rfl i_Mod t_Mod t_Mod_ok n_Mod 12 2 (by decide) rfl kw_1147 (fun _ h9 => h9) rfl hnm rfl (mx_rf_n _ rfl _).1 (mx_rf_n _ rfl _).2 d_Mod_init_66 rfl (toE_sR (ci := 8) (k := 12) t31 rfl) (fun H locs hR => ?_)
  obtain ⟨h32, eh32⟩ : ∃ z, z = sR h30 812 v0 (some q29) := ⟨_, rfl⟩
  rw [← eh32] at hR
  have hw := hw h32 eh32
  refine mx_aload_n (r := some v0) hx hb d_Mod_init_69 rfl (lv_at hl 0 rfl) ?_
  refine lv_bipush (v := 60) hx hb d_Mod_init_70 (by decide) ?_
  refine mx_arr_i (N' := 60) hx hb hW hK.1 hR hA kw_84 (by decide) (by decide) (by decide) (by decide) (by decide) d_Mod_init_72 (fun q33 H tq33 hR => ?_)
  refine W.widen (k := 9) (n := 902) (by first | decide | omega) (by first | decide | omega) ?_
  have hw := hw q33 tq33
  obtain ⟨h34, eh34⟩ : ∃ z, z = nH h32 q33 1 60 := ⟨_, rfl⟩
  rw [← eh34] at hR
  have hw := hw h34 eh34
  obtain ⟨t35, hw⟩ := hw
  refine mx_putF (ci := 8) (C := "NetJoinsModel") (T := F_Mod) (N := 33) (v := va_rf (some q33)) (h' := sR h34 813 v0 (some q33)) hx hb hW hown hK.1 hR (a := v0) rfl t35 rfl i_Mod t_Mod t_Mod_ok n_Mod 13 2 (by decide) rfl kw_1148 (fun _ h9 => h9) rfl hnm rfl (mx_rf_n _ rfl _).1 (mx_rf_n _ rfl _).2 d_Mod_init_74 rfl (toE_sR (ci := 8) (k := 13) t35 rfl) (fun H locs hR => ?_)
  obtain ⟨h36, eh36⟩ : ∃ z, z = sR h34 813 v0 (some q33) := ⟨_, rfl⟩
  rw [← eh36] at hR
  have hw := hw h36 eh36
  refine mx_aload_n (r := some v0) hx hb d_Mod_init_77 rfl (lv_at hl 0 rfl) ?_
  refine lv_bipush (v := 120) hx hb d_Mod_init_78 (by decide) ?_
  refine mx_arr_l (N' := 120) hx hb hW hK.1 hR hA kw_1235 (by decide) (by decide) (by decide) (by decide) (by decide) d_Mod_init_80 (fun q37 H tq37 hR => ?_)
  refine W.widen (k := 10) (n := 1022) (by first | decide | omega) (by first | decide | omega) ?_
  have hw := hw q37 tq37
  obtain ⟨h38, eh38⟩ : ∃ z, z = nH h36 q37 3 120 := ⟨_, rfl⟩
  rw [← eh38] at hR
  have hw := hw h38 eh38
  obtain ⟨t39, hw⟩ := hw
  refine mx_putF (ci := 8) (C := "NetJoinsModel") (T := F_Mod) (N := 33) (v := va_rf (some q37)) (h' := sR h38 814 v0 (some q37)) hx hb hW hown hK.1 hR (a := v0) rfl t39 rfl i_Mod t_Mod t_Mod_ok n_Mod 14 2 (by decide) rfl kw_1149 (fun _ h9 => h9) rfl hnm rfl (mx_rf_n _ rfl _).1 (mx_rf_n _ rfl _).2 d_Mod_init_82 rfl (toE_sR (ci := 8) (k := 14) t39 rfl) (fun H locs hR => ?_)
  obtain ⟨h40, eh40⟩ : ∃ z, z = sR h38 814 v0 (some q37) := ⟨_, rfl⟩
  rw [← eh40] at hR
  have hw := hw h40 eh40
  refine mx_aload_n (r := some v0) hx hb d_Mod_init_85 rfl (lv_at hl 0 rfl) ?_
  refine lv_bipush (v := 60) hx hb d_Mod_init_86 (by decide) ?_
  refine mx_arr_i (N' := 60) hx hb hW hK.1 hR hA kw_84 (by decide) (by decide) (by decide) (by decide) (by decide) d_Mod_init_88 (fun q41 H tq41 hR => ?_)
  refine W.widen (k := 11) (n := 1082) (by first | decide | omega) (by first | decide | omega) ?_
  have hw := hw q41 tq41
  obtain ⟨h42, eh42⟩ : ∃ z, z = nH h40 q41 1 60 := ⟨_, rfl⟩
  rw [← eh42] at hR
  have hw := hw h42 eh42
  obtain ⟨t43, hw⟩ := hw
  refine mx_putF (ci := 8) (C := "NetJoinsModel") (T := F_Mod) (N := 33) (v := va_rf (some q41)) (h' := sR h42 816 v0 (some q41)) hx hb hW hown hK.1 hR (a := v0) rfl t43 rfl i_Mod t_Mod t_Mod_ok n_Mod 16 2 (by decide) rfl kw_1151 (fun _ h9 => h9) rfl hnm rfl (mx_rf_n _ rfl _).1 (mx_rf_n _ rfl _).2 d_Mod_init_90 rfl (toE_sR (ci := 8) (k := 16) t43 rfl) (fun H locs hR => ?_)
  obtain ⟨h44, eh44⟩ : ∃ z, z = sR h42 816 v0 (some q41) := ⟨_, rfl⟩
  rw [← eh44] at hR
  have hw := hw h44 eh44
  refine mx_aload_n (r := some v0) hx hb d_Mod_init_93 rfl (lv_at hl 0 rfl) ?_
  refine lv_bipush (v := 60) hx hb d_Mod_init_94 (by decide) ?_
  refine mx_arr_i (N' := 60) hx hb hW hK.1 hR hA kw_84 (by decide) (by decide) (by decide) (by decide) (by decide) d_Mod_init_96 (fun q45 H tq45 hR => ?_)
  refine W.widen (k := 12) (n := 1142) (by first | decide | omega) (by first | decide | omega) ?_
  have hw := hw q45 tq45
  obtain ⟨h46, eh46⟩ : ∃ z, z = nH h44 q45 1 60 := ⟨_, rfl⟩
  rw [← eh46] at hR
  have hw := hw h46 eh46
  obtain ⟨t47, hw⟩ := hw
  refine mx_putF (ci := 8) (C := "NetJoinsModel") (T := F_Mod) (N := 33) (v := va_rf (some q45)) (h' := sR h46 817 v0 (some q45)) hx hb hW hown hK.1 hR (a := v0) rfl t47 rfl i_Mod t_Mod t_Mod_ok n_Mod 17 2 (by decide) rfl kw_1152 (fun _ h9 => h9) rfl hnm rfl (mx_rf_n _ rfl _).1 (mx_rf_n _ rfl _).2 d_Mod_init_98 rfl (toE_sR (ci := 8) (k := 17) t47 rfl) (fun H locs hR => ?_)
  obtain ⟨h48, eh48⟩ : ∃ z, z = sR h46 817 v0 (some q45) := ⟨_, rfl⟩
  rw [← eh48] at hR
  have hw := hw h48 eh48
  refine mx_aload_n (r := some v0) hx hb d_Mod_init_101 rfl (lv_at hl 0 rfl) ?_
  refine lv_bipush (v := 120) hx hb d_Mod_init_102 (by decide) ?_
  refine mx_arr_l (N' := 120) hx hb hW hK.1 hR hA kw_1235 (by decide) (by decide) (by decide) (by decide) (by decide) d_Mod_init_104 (fun q49 H tq49 hR => ?_)
  refine W.widen (k := 13) (n := 1262) (by first | decide | omega) (by first | decide | omega) ?_
  have hw := hw q49 tq49
  obtain ⟨h50, eh50⟩ : ∃ z, z = nH h48 q49 3 120 := ⟨_, rfl⟩
  rw [← eh50] at hR
  have hw := hw h50 eh50
  obtain ⟨t51, hw⟩ := hw
  refine mx_putF (ci := 8) (C := "NetJoinsModel") (T := F_Mod) (N := 33) (v := va_rf (some q49)) (h' := sR h50 818 v0 (some q49)) hx hb hW hown hK.1 hR (a := v0) rfl t51 rfl i_Mod t_Mod t_Mod_ok n_Mod 18 2 (by decide) rfl kw_1153 (fun _ h9 => h9) rfl hnm rfl (mx_rf_n _ rfl _).1 (mx_rf_n _ rfl _).2 d_Mod_init_106 rfl (toE_sR (ci := 8) (k := 18) t51 rfl) (fun H locs hR => ?_)
  obtain ⟨h52, eh52⟩ : ∃ z, z = sR h50 818 v0 (some q49) := ⟨_, rfl⟩
  rw [← eh52] at hR
  have hw := hw h52 eh52
  refine mx_aload_n (r := some v0) hx hb d_Mod_init_109 rfl (lv_at hl 0 rfl) ?_
  refine lv_bipush (v := 60) hx hb d_Mod_init_110 (by decide) ?_
  refine mx_arr_z (N' := 60) hx hb hW hK.1 hR hA kw_119 (by decide) (by decide) (by decide) (by decide) (by decide) d_Mod_init_112 (fun q53 H tq53 hR => ?_)
  refine W.widen (k := 14) (n := 1322) (by first | decide | omega) (by first | decide | omega) ?_
  have hw := hw q53 tq53
  obtain ⟨h54, eh54⟩ : ∃ z, z = nH h52 q53 2 60 := ⟨_, rfl⟩
  rw [← eh54] at hR
  have hw := hw h54 eh54
  obtain ⟨t55, hw⟩ := hw
  refine mx_putF (ci := 8) (C := "NetJoinsModel") (T := F_Mod) (N := 33) (v := va_rf (some q53)) (h' := sR h54 819 v0 (some q53)) hx hb hW hown hK.1 hR (a := v0) rfl t55 rfl i_Mod t_Mod t_Mod_ok n_Mod 19 2 (by decide) rfl kw_1154 (fun _ h9 => h9) rfl hnm rfl (mx_rf_n _ rfl _).1 (mx_rf_n _ rfl _).2 d_Mod_init_114 rfl (toE_sR (ci := 8) (k := 19) t55 rfl) (fun H locs hR => ?_)
  obtain ⟨h56, eh56⟩ : ∃ z, z = sR h54 819 v0 (some q53) := ⟨_, rfl⟩
  rw [← eh56] at hR
  have hw := hw h56 eh56
  refine mx_aload_n (r := some v0) hx hb d_Mod_init_117 rfl (lv_at hl 0 rfl) ?_
  refine lv_bipush (v := 90) hx hb d_Mod_init_118 (by decide) ?_
  refine mx_arr_i (N' := 90) hx hb hW hK.1 hR hA kw_84 (by decide) (by decide) (by decide) (by decide) (by decide) d_Mod_init_120 (fun q57 H tq57 hR => ?_)
  refine W.widen (k := 15) (n := 1412) (by first | decide | omega) (by first | decide | omega) ?_
  have hw := hw q57 tq57
  obtain ⟨h58, eh58⟩ : ∃ z, z = nH h56 q57 1 90 := ⟨_, rfl⟩
  rw [← eh58] at hR
  have hw := hw h58 eh58
  obtain ⟨t59, hw⟩ := hw
  refine mx_putF (ci := 8) (C := "NetJoinsModel") (T := F_Mod) (N := 33) (v := va_rf (some q57)) (h' := sR h58 821 v0 (some q57)) hx hb hW hown hK.1 hR (a := v0) rfl t59 rfl i_Mod t_Mod t_Mod_ok n_Mod 21 2 (by decide) rfl kw_1156 (fun _ h9 => h9) rfl hnm rfl (mx_rf_n _ rfl _).1 (mx_rf_n _ rfl _).2 d_Mod_init_122 rfl (toE_sR (ci := 8) (k := 21) t59 rfl) (fun H locs hR => ?_)
  obtain ⟨h60, eh60⟩ : ∃ z, z = sR h58 821 v0 (some q57) := ⟨_, rfl⟩
  rw [← eh60] at hR
  have hw := hw h60 eh60
  refine mx_aload_n (r := some v0) hx hb d_Mod_init_125 rfl (lv_at hl 0 rfl) ?_
  refine lv_bipush (v := 64) hx hb d_Mod_init_126 (by decide) ?_
  refine mx_arr_i (N' := 64) hx hb hW hK.1 hR hA kw_84 (by decide) (by decide) (by decide) (by decide) (by decide) d_Mod_init_128 (fun q61 H tq61 hR => ?_)
  refine W.widen (k := 16) (n := 1476) (by first | decide | omega) (by first | decide | omega) ?_
  have hw := hw q61 tq61
  obtain ⟨h62, eh62⟩ : ∃ z, z = nH h60 q61 1 64 := ⟨_, rfl⟩
  rw [← eh62] at hR
  have hw := hw h62 eh62
  obtain ⟨t63, hw⟩ := hw
  refine mx_putF (ci := 8) (C := "NetJoinsModel") (T := F_Mod) (N := 33) (v := va_rf (some q61)) (h' := sR h62 823 v0 (some q61)) hx hb hW hown hK.1 hR (a := v0) rfl t63 rfl i_Mod t_Mod t_Mod_ok n_Mod 23 2 (by decide) rfl kw_1158 (fun _ h9 => h9) rfl hnm rfl (mx_rf_n _ rfl _).1 (mx_rf_n _ rfl _).2 d_Mod_init_130 rfl (toE_sR (ci := 8) (k := 23) t63 rfl) (fun H locs hR => ?_)
  obtain ⟨h64, eh64⟩ : ∃ z, z = sR h62 823 v0 (some q61) := ⟨_, rfl⟩
  rw [← eh64] at hR
  have hw := hw h64 eh64
  refine mx_aload_n (r := some v0) hx hb d_Mod_init_133 rfl (lv_at hl 0 rfl) ?_
  refine lv_sipush (v := 1000) hx hb d_Mod_init_134 (by decide) ?_
  refine mx_arr_i (N' := 1000) hx hb hW hK.1 hR hA kw_84 (by decide) (by decide) (by decide) (by decide) (by decide) d_Mod_init_137 (fun q65 H tq65 hR => ?_)
  refine W.widen (k := 17) (n := 2476) (by first | decide | omega) (by first | decide | omega) ?_
  have hw := hw q65 tq65
  obtain ⟨h66, eh66⟩ : ∃ z, z = nH h64 q65 1 1000 := ⟨_, rfl⟩
  rw [← eh66] at hR
  have hw := hw h66 eh66
  obtain ⟨t67, hw⟩ := hw
  refine mx_putF (ci := 8) (C := "NetJoinsModel") (T := F_Mod) (N := 33) (v := va_rf (some q65)) (h' := sR h66 824 v0 (some q65)) hx hb hW hown hK.1 hR (a := v0) rfl t67 rfl i_Mod t_Mod t_Mod_ok n_Mod 24 2 (by decide) rfl kw_1159 (fun _ h9 => h9) rfl hnm rfl (mx_rf_n _ rfl _).1 (mx_rf_n _ rfl _).2 d_Mod_init_139 rfl (toE_sR (ci := 8) (k := 24) t67 rfl) (fun H locs hR => ?_)
  obtain ⟨h68, eh68⟩ : ∃ z, z = sR h66 824 v0 (some q65) := ⟨_, rfl⟩
  rw [← eh68] at hR
  have hw := hw h68 eh68
  refine mx_aload_n (r := some v0) hx hb d_Mod_init_142 rfl (lv_at hl 0 rfl) ?_
  refine lv_sipush (v := 19520) hx hb d_Mod_init_143 (by decide) ?_
  refine mx_arr_i (N' := 19520) hx hb hW hK.1 hR hA kw_84 (by decide) (by decide) (by decide) (by decide) (by decide) d_Mod_init_146 (fun q69 H tq69 hR => ?_)
  refine W.widen (k := 18) (n := 21996) (by first | decide | omega) (by first | decide | omega) ?_
  have hw := hw q69 tq69
  obtain ⟨h70, eh70⟩ : ∃ z, z = nH h68 q69 1 19520 := ⟨_, rfl⟩
  rw [← eh70] at hR
  have hw := hw h70 eh70
  obtain ⟨t71, hw⟩ := hw
  refine mx_putF (ci := 8) (C := "NetJoinsModel") (T := F_Mod) (N := 33) (v := va_rf (some q69)) (h' := sR h70 825 v0 (some q69)) hx hb hW hown hK.1 hR (a := v0) rfl t71 rfl i_Mod t_Mod t_Mod_ok n_Mod 25 2 (by decide) rfl kw_1160 (fun _ h9 => h9) rfl hnm rfl (mx_rf_n _ rfl _).1 (mx_rf_n _ rfl _).2 d_Mod_init_148 rfl (toE_sR (ci := 8) (k := 25) t71 rfl) (fun H locs hR => ?_)
  obtain ⟨h72, eh72⟩ : ∃ z, z = sR h70 825 v0 (some q69) := ⟨_, rfl⟩
  rw [← eh72] at hR
  have hw := hw h72 eh72
  refine mx_aload_n (r := some v0) hx hb d_Mod_init_151 rfl (lv_at hl 0 rfl) ?_
  refine lv_sipush (v := 19520) hx hb d_Mod_init_152 (by decide) ?_
  refine mx_arr_i (N' := 19520) hx hb hW hK.1 hR hA kw_84 (by decide) (by decide) (by decide) (by decide) (by decide) d_Mod_init_155 (fun q73 H tq73 hR => ?_)
  refine W.widen (k := 19) (n := 41516) (by first | decide | omega) (by first | decide | omega) ?_
  have hw := hw q73 tq73
  obtain ⟨h74, eh74⟩ : ∃ z, z = nH h72 q73 1 19520 := ⟨_, rfl⟩
  rw [← eh74] at hR
  have hw := hw h74 eh74
  obtain ⟨t75, hw⟩ := hw
  refine mx_putF (ci := 8) (C := "NetJoinsModel") (T := F_Mod) (N := 33) (v := va_rf (some q73)) (h' := sR h74 826 v0 (some q73)) hx hb hW hown hK.1 hR (a := v0) rfl t75 rfl i_Mod t_Mod t_Mod_ok n_Mod 26 2 (by decide) rfl kw_1161 (fun _ h9 => h9) rfl hnm rfl (mx_rf_n _ rfl _).1 (mx_rf_n _ rfl _).2 d_Mod_init_157 rfl (toE_sR (ci := 8) (k := 26) t75 rfl) (fun H locs hR => ?_)
  obtain ⟨h76, eh76⟩ : ∃ z, z = sR h74 826 v0 (some q73) := ⟨_, rfl⟩
  rw [← eh76] at hR
  have hw := hw h76 eh76
  refine mx_aload_n (r := some v0) hx hb d_Mod_init_160 rfl (lv_at hl 0 rfl) ?_
  refine lv_sipush (v := 960) hx hb d_Mod_init_161 (by decide) ?_
  refine mx_arr_i (N' := 960) hx hb hW hK.1 hR hA kw_84 (by decide) (by decide) (by decide) (by decide) (by decide) d_Mod_init_164 (fun q77 H tq77 hR => ?_)
  refine W.widen (k := 20) (n := 42476) (by first | decide | omega) (by first | decide | omega) ?_
  have hw := hw q77 tq77
  obtain ⟨h78, eh78⟩ : ∃ z, z = nH h76 q77 1 960 := ⟨_, rfl⟩
  rw [← eh78] at hR
  have hw := hw h78 eh78
  obtain ⟨t79, hw⟩ := hw
  refine mx_putF (ci := 8) (C := "NetJoinsModel") (T := F_Mod) (N := 33) (v := va_rf (some q77)) (h' := sR h78 827 v0 (some q77)) hx hb hW hown hK.1 hR (a := v0) rfl t79 rfl i_Mod t_Mod t_Mod_ok n_Mod 27 2 (by decide) rfl kw_1162 (fun _ h9 => h9) rfl hnm rfl (mx_rf_n _ rfl _).1 (mx_rf_n _ rfl _).2 d_Mod_init_166 rfl (toE_sR (ci := 8) (k := 27) t79 rfl) (fun H locs hR => ?_)
  obtain ⟨h80, eh80⟩ : ∃ z, z = sR h78 827 v0 (some q77) := ⟨_, rfl⟩
  rw [← eh80] at hR
  have hw := hw h80 eh80
  refine mx_aload_n (r := some v0) hx hb d_Mod_init_169 rfl (lv_at hl 0 rfl) ?_
  refine lv_sipush (v := 960) hx hb d_Mod_init_170 (by decide) ?_
  refine mx_arr_i (N' := 960) hx hb hW hK.1 hR hA kw_84 (by decide) (by decide) (by decide) (by decide) (by decide) d_Mod_init_173 (fun q81 H tq81 hR => ?_)
  refine W.widen (k := 21) (n := 43436) (by first | decide | omega) (by first | decide | omega) ?_
  have hw := hw q81 tq81
  obtain ⟨h82, eh82⟩ : ∃ z, z = nH h80 q81 1 960 := ⟨_, rfl⟩
  rw [← eh82] at hR
  have hw := hw h82 eh82
  obtain ⟨t83, hw⟩ := hw
  refine mx_putF (ci := 8) (C := "NetJoinsModel") (T := F_Mod) (N := 33) (v := va_rf (some q81)) (h' := sR h82 828 v0 (some q81)) hx hb hW hown hK.1 hR (a := v0) rfl t83 rfl i_Mod t_Mod t_Mod_ok n_Mod 28 2 (by decide) rfl kw_1163 (fun _ h9 => h9) rfl hnm rfl (mx_rf_n _ rfl _).1 (mx_rf_n _ rfl _).2 d_Mod_init_175 rfl (toE_sR (ci := 8) (k := 28) t83 rfl) (fun H locs hR => ?_)
  obtain ⟨h84, eh84⟩ : ∃ z, z = sR h82 828 v0 (some q81) := ⟨_, rfl⟩
  rw [← eh84] at hR
  have hw := hw h84 eh84
  refine mx_aload_n (r := some v0) hx hb d_Mod_init_178 rfl (lv_at hl 0 rfl) ?_
  refine lv_sipush (v := 960) hx hb d_Mod_init_179 (by decide) ?_
  refine mx_arr_z (N' := 960) hx hb hW hK.1 hR hA kw_119 (by decide) (by decide) (by decide) (by decide) (by decide) d_Mod_init_182 (fun q85 H tq85 hR => ?_)
  refine W.widen (k := 22) (n := 44396) (by first | decide | omega) (by first | decide | omega) ?_
  have hw := hw q85 tq85
  obtain ⟨h86, eh86⟩ : ∃ z, z = nH h84 q85 2 960 := ⟨_, rfl⟩
  rw [← eh86] at hR
  have hw := hw h86 eh86
  obtain ⟨t87, hw⟩ := hw
  refine mx_putF (ci := 8) (C := "NetJoinsModel") (T := F_Mod) (N := 33) (v := va_rf (some q85)) (h' := sR h86 830 v0 (some q85)) hx hb hW hown hK.1 hR (a := v0) rfl t87 rfl i_Mod t_Mod t_Mod_ok n_Mod 30 2 (by decide) rfl kw_1165 (fun _ h9 => h9) rfl hnm rfl (mx_rf_n _ rfl _).1 (mx_rf_n _ rfl _).2 d_Mod_init_184 rfl (toE_sR (ci := 8) (k := 30) t87 rfl) (fun H locs hR => ?_)
  obtain ⟨h88, eh88⟩ : ∃ z, z = sR h86 830 v0 (some q85) := ⟨_, rfl⟩
  rw [← eh88] at hR
  have hw := hw h88 eh88
  exact mx_vret hx hb hr hlocks hR hw d_Mod_init_187
set_option maxHeartbeats 4000000 in
set_option maxRecDepth 100000 in
theorem mt_Mod_thrown (l : Launch) (D : va_G) (cs : CS) (Z : Nat → Nat) (sz : Nat) {post : Int32 → HS → Prop} {h : HS} {v0 : Nat}  (hw : wp_Mod_thrown Z post h v0 ) : Met l y_Mod_thrown (Cond.code y_Mod_thrown c_Mod_thrown 1 (some .int) :: WA) ({ frames := 2, cells := 0, slots := 0, locals := 100 } : Room) (mPc D cs Z h sz [va_rf (some v0)]) (va_Qi post (mB D cs h sz) (fA h sz)) 0 0 (fA h sz) := by
  refine mx_met (fun sz => va_Qi post (mB D cs h sz) (fA h sz)) (by decide) (by simp [lg_sl, mx_rf_cat, cat_i, cat_l]) ?_
  intro p e s m args below meth c C hR ls hl
  have hl : lv_has ls 1 [(0, va_rf (some v0))] := hl
  obtain ⟨hx, hb, hr, hml, hown, hW, hlocks, hnm, hK, hZ⟩ := id C
  have hown : s.vm.findClass "NetJoinsModel" = some m.cls := hown
  have hA : ∀ q, s.heap.size ≤ q → fA h s.heap.size q := fun _ h => Or.inr h
  unfold wp_Mod_thrown at hw
  refine mx_aload_n (r := some v0) hx hb d_Mod_thrown_0 rfl (lv_at hl 0 rfl) ?_
  obtain ⟨t1, hw⟩ := hw
  refine mx_get (ci := 8) (C := "NetJoinsModel") (T := F_Mod) (N := 33) hx hb hW hown hK.1 hR (a := v0) rfl t1 rfl i_Mod 0 0 (by decide) rfl kw_1135 (fun _ h9 => h9) d_Mod_thrown_1 ?_
  exact mx_iret hx hb hr hlocks hR hw d_Mod_thrown_4
set_option maxHeartbeats 4000000 in
set_option maxRecDepth 100000 in
theorem mt_Mod_isSheet (l : Launch) (D : va_G) (cs : CS) (Z : Nat → Nat) (sz : Nat) {post : Int32 → HS → Prop} {h : HS} {v0 : Nat} {x1 : Int32} (hw : wp_Mod_isSheet Z post h v0 x1) : Met l y_Mod_isSheet (Cond.code y_Mod_isSheet c_Mod_isSheet 2 (some .boolean) :: WA) ({ frames := 2, cells := 0, slots := 0, locals := 100 } : Room) (mPc D cs Z h sz [va_rf (some v0), .int x1]) (va_Qi post (mB D cs h sz) (fA h sz)) 0 0 (fA h sz) := by
  refine mx_met (fun sz => va_Qi post (mB D cs h sz) (fA h sz)) (by decide) (by simp [lg_sl, mx_rf_cat, cat_i, cat_l]) ?_
  intro p e s m args below meth c C hR ls hl
  have hl : lv_has ls 2 [(0, va_rf (some v0)), (1, .int x1)] := hl
  obtain ⟨hx, hb, hr, hml, hown, hW, hlocks, hnm, hK, hZ⟩ := id C
  have hown : s.vm.findClass "NetJoinsModel" = some m.cls := hown
  have hA : ∀ q, s.heap.size ≤ q → fA h s.heap.size q := fun _ h => Or.inr h
  unfold wp_Mod_isSheet at hw
  refine lv_iload_n hx hb d_Mod_isSheet_0 rfl (lv_at hl 1 rfl) ?_
  refine lv_if_lt (tgt := 16) hx hb d_Mod_isSheet_1 (by decide) (fun c1 => ?_) (fun c1 => ?_)
  · have hw := hw.1 c1
    refine lv_iconst (v := 0) hx hb d_Mod_isSheet_16 (by decide) ?_
    exact mx_zret hx hb hr hlocks hR (Or.inl rfl) hw d_Mod_isSheet_17
  · have hw := hw.2 c1
    refine lv_iload_n hx hb d_Mod_isSheet_4 rfl (lv_at hl 1 rfl) ?_
    refine mx_aload_n (r := some v0) hx hb d_Mod_isSheet_5 rfl (lv_at hl 0 rfl) ?_
    obtain ⟨t2, hw⟩ := hw
    refine mx_get (ci := 8) (C := "NetJoinsModel") (T := F_Mod) (N := 33) hx hb hW hown hK.1 hR (a := v0) rfl t2 rfl i_Mod 1 0 (by decide) rfl kw_1136 (fun _ h9 => h9) d_Mod_isSheet_6 ?_
    refine lv_icmp_ge (tgt := 16) hx hb d_Mod_isSheet_9 (by decide) (fun c3 => ?_) (fun c3 => ?_)
    · have hw := hw.1 c3
      refine lv_iconst (v := 0) hx hb d_Mod_isSheet_16 (by decide) ?_
      exact mx_zret hx hb hr hlocks hR (Or.inl rfl) hw d_Mod_isSheet_17
    · have hw := hw.2 c3
      refine lv_iconst (v := 1) hx hb d_Mod_isSheet_12 (by decide) ?_
      refine lv_goto (tgt := 17) hx hb d_Mod_isSheet_13 (by decide) ?_
      exact mx_zret hx hb hr hlocks hR (Or.inr rfl) hw d_Mod_isSheet_17
set_option maxHeartbeats 4000000 in
set_option maxRecDepth 100000 in
theorem mt_Mod_isOn (l : Launch) (D : va_G) (cs : CS) (Z : Nat → Nat) (sz : Nat) {post : Int32 → HS → Prop} {h : HS} {v0 : Nat} {x1 : Int32} {x2 : Int32} (hw : wp_Mod_isOn Z post h v0 x1 x2) : Met l y_Mod_isOn (Cond.code y_Mod_isOn c_Mod_isOn 3 (some .boolean) :: WA) ({ frames := 2, cells := 0, slots := 0, locals := 100 } : Room) (mPc D cs Z h sz [va_rf (some v0), .int x1, .int x2]) (va_Qi post (mB D cs h sz) (fA h sz)) 0 0 (fA h sz) := by
  refine mx_met (fun sz => va_Qi post (mB D cs h sz) (fA h sz)) (by decide) (by simp [lg_sl, mx_rf_cat, cat_i, cat_l]) ?_
  intro p e s m args below meth c C hR ls hl
  have hl : lv_has ls 3 [(0, va_rf (some v0)), (1, .int x1), (2, .int x2)] := hl
  obtain ⟨hx, hb, hr, hml, hown, hW, hlocks, hnm, hK, hZ⟩ := id C
  have hown : s.vm.findClass "NetJoinsModel" = some m.cls := hown
  have hA : ∀ q, s.heap.size ≤ q → fA h s.heap.size q := fun _ h => Or.inr h
  unfold wp_Mod_isOn at hw
  refine mx_aload_n (r := some v0) hx hb d_Mod_isOn_0 rfl (lv_at hl 0 rfl) ?_
  obtain ⟨t1, hw⟩ := hw
  refine mx_get (ci := 8) (C := "NetJoinsModel") (T := F_Mod) (N := 33) hx hb hW hown hK.1 hR (a := v0) rfl t1 rfl i_Mod 5 2 (by decide) rfl kw_1140 (fun _ h9 => h9) d_Mod_isOn_1 ?_
  refine lv_iload_n hx hb d_Mod_isOn_4 rfl (lv_at hl 1 rfl) ?_
  obtain ⟨a2, ea2, t3, t3i, hw⟩ := hw
  refine mx_iald hx hb hK.1 hR (a := a2) ea2 t3 t3i d_Mod_isOn_5 ?_
  refine lv_iload_n hx hb d_Mod_isOn_6 rfl (lv_at hl 2 rfl) ?_
  refine lv_icmp_ne (tgt := 23) hx hb d_Mod_isOn_7 (by decide) (fun c4 => ?_) (fun c4 => ?_)
  · have hw := hw.1 c4
    refine lv_iconst (v := 0) hx hb d_Mod_isOn_23 (by decide) ?_
    exact mx_zret hx hb hr hlocks hR (Or.inl rfl) hw d_Mod_isOn_24
  · have hw := hw.2 c4
    refine mx_aload_n (r := some v0) hx hb d_Mod_isOn_10 rfl (lv_at hl 0 rfl) ?_
    obtain ⟨t5, hw⟩ := hw
    refine mx_get (ci := 8) (C := "NetJoinsModel") (T := F_Mod) (N := 33) hx hb hW hown hK.1 hR (a := v0) rfl t5 rfl i_Mod 7 2 (by decide) rfl kw_1142 (fun _ h9 => h9) d_Mod_isOn_11 ?_
    refine lv_iload_n hx hb d_Mod_isOn_14 rfl (lv_at hl 1 rfl) ?_
    obtain ⟨a6, ea6, t7, t7i, hw⟩ := hw
    refine mx_zald hx hb hK.1 hR (a := a6) ea6 t7 t7i d_Mod_isOn_15 ?_
    refine lv_if_ne (tgt := 23) hx hb d_Mod_isOn_16 (by decide) (fun c8 => ?_) (fun c8 => ?_)
    · have hw := hw.1 c8
      refine lv_iconst (v := 0) hx hb d_Mod_isOn_23 (by decide) ?_
      exact mx_zret hx hb hr hlocks hR (Or.inl rfl) hw d_Mod_isOn_24
    · have hw := hw.2 c8
      refine lv_iconst (v := 1) hx hb d_Mod_isOn_19 (by decide) ?_
      refine lv_goto (tgt := 24) hx hb d_Mod_isOn_20 (by decide) ?_
      exact mx_zret hx hb hr hlocks hR (Or.inr rfl) hw d_Mod_isOn_24
set_option maxHeartbeats 4000000 in
set_option maxRecDepth 100000 in
theorem mn_Mod_haveEnd_72 {D : va_G} {cs : CS} {Z : Nat → Nat} {h0 : HS} {p : Program} {l : Launch} {e : Env} {s : State} {m : MethodId} {args : Array Value} {below : List Frame} {meth : Method} {c : Code} {v0 : Nat} (C : mC D cs Z h0 y_Mod_haveEnd c_Mod_haveEnd 5 (some .boolean) p s m args meth c) (post : Int32 → HS → Prop) (K2 : Int32 × Int32 × Int32 × HS → Prop) (K10 : Int32 × Int32 × Int32 × Int32 × HS → Prop) (hK2 : ∀ (x1 : Int32) (x2 : Int32) (x3 : Int32) (h : HS) (H : Heap) (locs : List Loc) (ls : Array Slot), K2 (x1, x2, x3, h) → lv_has ls 5 [(0, va_rf (some v0)), (1, .int x1), (2, .int x2), (3, .int x3)] → mR D cs (fA h0 s.heap.size) h s.heap H locs → W p l e ({ frames := 2, cells := 0, slots := 0, locals := 100 } : Room) s m args below meth c H locs 0 0 (MQ below (va_Qi post (mB D cs h0 s.heap.size) (fA h0 s.heap.size)) args s 0 0 (fA h0 s.heap.size)) (F0 m 2 ls [])) (hK10 : ∀ (x1 : Int32) (x2 : Int32) (x3 : Int32) (x4 : Int32) (h : HS) (H : Heap) (locs : List Loc) (ls : Array Slot), K10 (x1, x2, x3, x4, h) → lv_has ls 5 [(0, va_rf (some v0)), (1, .int x1), (2, .int x2), (3, .int x3), (4, .int x4)] → mR D cs (fA h0 s.heap.size) h s.heap H locs → W p l e ({ frames := 2, cells := 0, slots := 0, locals := 100 } : Room) s m args below meth c H locs 0 0 (MQ below (va_Qi post (mB D cs h0 s.heap.size) (fA h0 s.heap.size)) args s 0 0 (fA h0 s.heap.size)) (F0 m 10 ls [])) : ∀ (x1 : Int32) (x2 : Int32) (x3 : Int32) (x4 : Int32) (h : HS) (H : Heap) (locs : List Loc) (ls : Array Slot), wj_Mod_haveEnd_72 Z post K2 K10 v0 x1 x2 x3 x4 h → lv_has ls 5 [(0, va_rf (some v0)), (1, .int x1), (2, .int x2), (3, .int x3), (4, .int x4)] → mR D cs (fA h0 s.heap.size) h s.heap H locs → W p l e ({ frames := 2, cells := 0, slots := 0, locals := 100 } : Room) s m args below meth c H locs 0 0 (MQ below (va_Qi post (mB D cs h0 s.heap.size) (fA h0 s.heap.size)) args s 0 0 (fA h0 s.heap.size)) (F0 m 72 ls []) := by
  obtain ⟨hx, hb, hr, hml, hown, hW, hlocks, hnm, hK, hZ⟩ := id C
  have hown : s.vm.findClass "NetJoinsModel" = some m.cls := hown
  have hA : ∀ q, s.heap.size ≤ q → fA h0 s.heap.size q := fun _ h => Or.inr h
  intro x1 x2 x3 x4 h H locs ls hw hl hR
  unfold wj_Mod_haveEnd_72 at hw
  obtain ⟨y1, ey1⟩ : ∃ y : Int32, y = x4 + (2 : Int32) := ⟨_, rfl⟩
  have hw := hw y1 ey1
  refine lv_iinc (v := y1) (lv' := [(4, .int y1), (0, va_rf (some v0)), (1, .int x1), (2, .int x2), (3, .int x3)]) hx hb d_Mod_haveEnd_72 hl (k := 4) rfl (by rw [ey1]; rfl) (by decide) rfl (fun ls hl => ?_)
  refine lv_goto (tgt := 10) hx hb d_Mod_haveEnd_75 (by decide) ?_
  exact hK10 x1 x2 x3 y1 _ _ _ _ hw (lv_sub hl [1, 2, 3, 4, 0] rfl) hR
set_option maxHeartbeats 4000000 in
set_option maxRecDepth 100000 in
theorem mn_Mod_haveEnd_10 {D : va_G} {cs : CS} {Z : Nat → Nat} {h0 : HS} {p : Program} {l : Launch} {e : Env} {s : State} {m : MethodId} {args : Array Value} {below : List Frame} {meth : Method} {c : Code} {v0 : Nat} (C : mC D cs Z h0 y_Mod_haveEnd c_Mod_haveEnd 5 (some .boolean) p s m args meth c) (post : Int32 → HS → Prop) (K2 : Int32 × Int32 × Int32 × HS → Prop) (hK2 : ∀ (x1 : Int32) (x2 : Int32) (x3 : Int32) (h : HS) (H : Heap) (locs : List Loc) (ls : Array Slot), K2 (x1, x2, x3, h) → lv_has ls 5 [(0, va_rf (some v0)), (1, .int x1), (2, .int x2), (3, .int x3)] → mR D cs (fA h0 s.heap.size) h s.heap H locs → W p l e ({ frames := 2, cells := 0, slots := 0, locals := 100 } : Room) s m args below meth c H locs 0 0 (MQ below (va_Qi post (mB D cs h0 s.heap.size) (fA h0 s.heap.size)) args s 0 0 (fA h0 s.heap.size)) (F0 m 2 ls [])) : ∀ (n : Nat) (x1 : Int32) (x2 : Int32) (x3 : Int32) (x4 : Int32) (h : HS) (H : Heap) (locs : List Loc) (ls : Array Slot), lpF (wb_Mod_haveEnd_10 Z post K2 v0) n (x1, x2, x3, x4, h) → lv_has ls 5 [(0, va_rf (some v0)), (1, .int x1), (2, .int x2), (3, .int x3), (4, .int x4)] → mR D cs (fA h0 s.heap.size) h s.heap H locs → W p l e ({ frames := 2, cells := 0, slots := 0, locals := 100 } : Room) s m args below meth c H locs 0 0 (MQ below (va_Qi post (mB D cs h0 s.heap.size) (fA h0 s.heap.size)) args s 0 0 (fA h0 s.heap.size)) (F0 m 10 ls []) := by
  obtain ⟨hx, hb, hr, hml, hown, hW, hlocks, hnm, hK, hZ⟩ := id C
  have hown : s.vm.findClass "NetJoinsModel" = some m.cls := hown
  have hA : ∀ q, s.heap.size ≤ q → fA h0 s.heap.size q := fun _ h => Or.inr h
  intro n
  induction n with
  | zero => intro x1 x2 x3 x4 h H locs ls hw; exact hw.elim
  | succ n ih =>
    intro x1 x2 x3 x4 h H locs ls hw hl hR
    have hw : wb_Mod_haveEnd_10 Z post K2 v0 (lpF (wb_Mod_haveEnd_10 Z post K2 v0) n) (x1, x2, x3, x4, h) := hw
    unfold wb_Mod_haveEnd_10 at hw
    dsimp only at hw
    refine lv_iload hx hb d_Mod_haveEnd_10 (lv_at hl 4 rfl) ?_
    refine lv_iconst (v := 4) hx hb d_Mod_haveEnd_12 (by decide) ?_
    refine lv_icmp_ge (tgt := 78) hx hb d_Mod_haveEnd_13 (by decide) (fun c1 => ?_) (fun c1 => ?_)
    · have hw := hw.1 c1
      obtain ⟨y2, ey2⟩ : ∃ y : Int32, y = x3 + (2 : Int32) := ⟨_, rfl⟩
      have hw := hw y2 ey2
      refine lv_iinc (v := y2) (lv' := [(3, .int y2), (0, va_rf (some v0)), (1, .int x1), (2, .int x2), (4, .int x4)]) hx hb d_Mod_haveEnd_78 hl (k := 3) rfl (by rw [ey2]; rfl) (by decide) rfl (fun ls hl => ?_)
      refine lv_goto (tgt := 2) hx hb d_Mod_haveEnd_81 (by decide) ?_
      exact hK2 x1 x2 y2 _ _ _ _ hw (lv_sub hl [1, 2, 3, 0] rfl) hR
    · have hw := hw.2 c1
      refine mx_aload_n (r := some v0) hx hb d_Mod_haveEnd_16 rfl (lv_at hl 0 rfl) ?_
      obtain ⟨t3, hw⟩ := hw
      refine mx_get (ci := 8) (C := "NetJoinsModel") (T := F_Mod) (N := 33) hx hb hW hown hK.1 hR (a := v0) rfl t3 rfl i_Mod 6 2 (by decide) rfl kw_1141 (fun _ h9 => h9) d_Mod_haveEnd_17 ?_
      refine lv_iconst (v := 4) hx hb d_Mod_haveEnd_20 (by decide) ?_
      refine lv_iload_n hx hb d_Mod_haveEnd_21 rfl (lv_at hl 1 rfl) ?_
      refine lv_imul hx hb d_Mod_haveEnd_22 ?_
      refine lv_iload_n hx hb d_Mod_haveEnd_23 rfl (lv_at hl 3 rfl) ?_
      refine lv_iadd hx hb d_Mod_haveEnd_24 ?_
      obtain ⟨a4, ea4, t5, t5i, hw⟩ := hw
      refine mx_lald hx hb hK.1 hR (a := a4) ea4 t5 t5i d_Mod_haveEnd_25 ?_
      refine mx_aload_n (r := some v0) hx hb d_Mod_haveEnd_26 rfl (lv_at hl 0 rfl) ?_
      obtain ⟨t6, hw⟩ := hw
      refine mx_get (ci := 8) (C := "NetJoinsModel") (T := F_Mod) (N := 33) hx hb hW hown hK.1 hR (a := v0) rfl t6 rfl i_Mod 6 2 (by decide) rfl kw_1141 (fun _ h9 => h9) d_Mod_haveEnd_27 ?_
      refine lv_iconst (v := 4) hx hb d_Mod_haveEnd_30 (by decide) ?_
      refine lv_iload_n hx hb d_Mod_haveEnd_31 rfl (lv_at hl 2 rfl) ?_
      refine lv_imul hx hb d_Mod_haveEnd_32 ?_
      refine lv_iload hx hb d_Mod_haveEnd_33 (lv_at hl 4 rfl) ?_
      refine lv_iadd hx hb d_Mod_haveEnd_35 ?_
      obtain ⟨a7, ea7, t8, t8i, hw⟩ := hw
      refine mx_lald hx hb hK.1 hR (a := a7) ea7 t8 t8i d_Mod_haveEnd_36 ?_
      refine W.lcmp hx hb d_Mod_haveEnd_37 ?_
      refine lv_if_ne (tgt := 72) hx hb d_Mod_haveEnd_38 (by decide) (fun c9 => ?_) (fun c9 => ?_)
      · have hw := hw.1 c9
        exact mn_Mod_haveEnd_72 C post K2 (lpF (wb_Mod_haveEnd_10 Z post K2 v0) n) hK2 ih x1 x2 x3 x4 _ _ _ _ hw (lv_sub hl [0, 1, 2, 3, 4] rfl) hR
      · have hw := hw.2 c9
        refine mx_aload_n (r := some v0) hx hb d_Mod_haveEnd_41 rfl (lv_at hl 0 rfl) ?_
        obtain ⟨t10, hw⟩ := hw
        refine mx_get (ci := 8) (C := "NetJoinsModel") (T := F_Mod) (N := 33) hx hb hW hown hK.1 hR (a := v0) rfl t10 rfl i_Mod 6 2 (by decide) rfl kw_1141 (fun _ h9 => h9) d_Mod_haveEnd_42 ?_
        refine lv_iconst (v := 4) hx hb d_Mod_haveEnd_45 (by decide) ?_
        refine lv_iload_n hx hb d_Mod_haveEnd_46 rfl (lv_at hl 1 rfl) ?_
        refine lv_imul hx hb d_Mod_haveEnd_47 ?_
        refine lv_iload_n hx hb d_Mod_haveEnd_48 rfl (lv_at hl 3 rfl) ?_
        refine lv_iadd hx hb d_Mod_haveEnd_49 ?_
        refine lv_iconst (v := 1) hx hb d_Mod_haveEnd_50 (by decide) ?_
        refine lv_iadd hx hb d_Mod_haveEnd_51 ?_
        obtain ⟨a11, ea11, t12, t12i, hw⟩ := hw
        refine mx_lald hx hb hK.1 hR (a := a11) ea11 t12 t12i d_Mod_haveEnd_52 ?_
        refine mx_aload_n (r := some v0) hx hb d_Mod_haveEnd_53 rfl (lv_at hl 0 rfl) ?_
        obtain ⟨t13, hw⟩ := hw
        refine mx_get (ci := 8) (C := "NetJoinsModel") (T := F_Mod) (N := 33) hx hb hW hown hK.1 hR (a := v0) rfl t13 rfl i_Mod 6 2 (by decide) rfl kw_1141 (fun _ h9 => h9) d_Mod_haveEnd_54 ?_
        refine lv_iconst (v := 4) hx hb d_Mod_haveEnd_57 (by decide) ?_
        refine lv_iload_n hx hb d_Mod_haveEnd_58 rfl (lv_at hl 2 rfl) ?_
        refine lv_imul hx hb d_Mod_haveEnd_59 ?_
        refine lv_iload hx hb d_Mod_haveEnd_60 (lv_at hl 4 rfl) ?_
        refine lv_iadd hx hb d_Mod_haveEnd_62 ?_
        refine lv_iconst (v := 1) hx hb d_Mod_haveEnd_63 (by decide) ?_
        refine lv_iadd hx hb d_Mod_haveEnd_64 ?_
        obtain ⟨a14, ea14, t15, t15i, hw⟩ := hw
        refine mx_lald hx hb hK.1 hR (a := a14) ea14 t15 t15i d_Mod_haveEnd_65 ?_
        refine W.lcmp hx hb d_Mod_haveEnd_66 ?_
        refine lv_if_ne (tgt := 72) hx hb d_Mod_haveEnd_67 (by decide) (fun c16 => ?_) (fun c16 => ?_)
        · have hw := hw.1 c16
          exact mn_Mod_haveEnd_72 C post K2 (lpF (wb_Mod_haveEnd_10 Z post K2 v0) n) hK2 ih x1 x2 x3 x4 _ _ _ _ hw (lv_sub hl [0, 1, 2, 3, 4] rfl) hR
        · have hw := hw.2 c16
          refine lv_iconst (v := 1) hx hb d_Mod_haveEnd_70 (by decide) ?_
          exact mx_zret hx hb hr hlocks hR (Or.inr rfl) hw d_Mod_haveEnd_71
set_option maxHeartbeats 4000000 in
set_option maxRecDepth 100000 in
theorem mn_Mod_haveEnd_2 {D : va_G} {cs : CS} {Z : Nat → Nat} {h0 : HS} {p : Program} {l : Launch} {e : Env} {s : State} {m : MethodId} {args : Array Value} {below : List Frame} {meth : Method} {c : Code} {v0 : Nat} (C : mC D cs Z h0 y_Mod_haveEnd c_Mod_haveEnd 5 (some .boolean) p s m args meth c) (post : Int32 → HS → Prop) : ∀ (n : Nat) (x1 : Int32) (x2 : Int32) (x3 : Int32) (h : HS) (H : Heap) (locs : List Loc) (ls : Array Slot), lpF (wb_Mod_haveEnd_2 Z post v0) n (x1, x2, x3, h) → lv_has ls 5 [(0, va_rf (some v0)), (1, .int x1), (2, .int x2), (3, .int x3)] → mR D cs (fA h0 s.heap.size) h s.heap H locs → W p l e ({ frames := 2, cells := 0, slots := 0, locals := 100 } : Room) s m args below meth c H locs 0 0 (MQ below (va_Qi post (mB D cs h0 s.heap.size) (fA h0 s.heap.size)) args s 0 0 (fA h0 s.heap.size)) (F0 m 2 ls []) := by
  obtain ⟨hx, hb, hr, hml, hown, hW, hlocks, hnm, hK, hZ⟩ := id C
  have hown : s.vm.findClass "NetJoinsModel" = some m.cls := hown
  have hA : ∀ q, s.heap.size ≤ q → fA h0 s.heap.size q := fun _ h => Or.inr h
  intro n
  induction n with
  | zero => intro x1 x2 x3 h H locs ls hw; exact hw.elim
  | succ n ih =>
    intro x1 x2 x3 h H locs ls hw hl hR
    have hw : wb_Mod_haveEnd_2 Z post v0 (lpF (wb_Mod_haveEnd_2 Z post v0) n) (x1, x2, x3, h) := hw
    unfold wb_Mod_haveEnd_2 at hw
    dsimp only at hw
    refine lv_iload_n hx hb d_Mod_haveEnd_2 rfl (lv_at hl 3 rfl) ?_
    refine lv_iconst (v := 4) hx hb d_Mod_haveEnd_3 (by decide) ?_
    refine lv_icmp_ge (tgt := 84) hx hb d_Mod_haveEnd_4 (by decide) (fun c1 => ?_) (fun c1 => ?_)
    · have hw := hw.1 c1
      refine lv_iconst (v := 0) hx hb d_Mod_haveEnd_84 (by decide) ?_
      exact mx_zret hx hb hr hlocks hR (Or.inl rfl) hw d_Mod_haveEnd_85
    · have hw := hw.2 c1
      refine lv_iconst (v := 0) hx hb d_Mod_haveEnd_7 (by decide) ?_
      refine lv_istore (i := 4) (lv' := [(4, .int (0 : Int32)), (0, va_rf (some v0)), (1, .int x1), (2, .int x2), (3, .int x3)]) hx hb d_Mod_haveEnd_8 hl (by decide) rfl (fun ls hl => ?_)
      obtain ⟨n9, hw⟩ := hw
      exact mn_Mod_haveEnd_10 C post (lpF (wb_Mod_haveEnd_2 Z post v0) n) ih n9 x1 x2 x3 (0 : Int32) _ _ _ _ hw (lv_sub hl [1, 2, 3, 4, 0] rfl) hR
set_option maxHeartbeats 4000000 in
set_option maxRecDepth 100000 in
theorem mt_Mod_haveEnd (l : Launch) (D : va_G) (cs : CS) (Z : Nat → Nat) (sz : Nat) {post : Int32 → HS → Prop} {h : HS} {v0 : Nat} {x1 : Int32} {x2 : Int32} (hw : wp_Mod_haveEnd Z post h v0 x1 x2) : Met l y_Mod_haveEnd (Cond.code y_Mod_haveEnd c_Mod_haveEnd 5 (some .boolean) :: WA) ({ frames := 2, cells := 0, slots := 0, locals := 100 } : Room) (mPc D cs Z h sz [va_rf (some v0), .int x1, .int x2]) (va_Qi post (mB D cs h sz) (fA h sz)) 0 0 (fA h sz) := by
  refine mx_met (fun sz => va_Qi post (mB D cs h sz) (fA h sz)) (by decide) (by simp [lg_sl, mx_rf_cat, cat_i, cat_l]) ?_
  intro p e s m args below meth c C hR ls hl
  have hl : lv_has ls 5 [(0, va_rf (some v0)), (1, .int x1), (2, .int x2)] := hl
  obtain ⟨hx, hb, hr, hml, hown, hW, hlocks, hnm, hK, hZ⟩ := id C
  have hown : s.vm.findClass "NetJoinsModel" = some m.cls := hown
  have hA : ∀ q, s.heap.size ≤ q → fA h s.heap.size q := fun _ h => Or.inr h
  unfold wp_Mod_haveEnd at hw
  refine lv_iconst (v := 0) hx hb d_Mod_haveEnd_0 (by decide) ?_
  refine lv_istore_n (i := 3) (lv' := [(3, .int (0 : Int32)), (0, va_rf (some v0)), (1, .int x1), (2, .int x2)]) hx hb d_Mod_haveEnd_1 rfl hl (by decide) rfl (fun ls hl => ?_)
  obtain ⟨n9, hw⟩ := hw
  exact mn_Mod_haveEnd_2 C post n9 x1 x2 (0 : Int32) _ _ _ _ hw (lv_sub hl [1, 2, 3, 0] rfl) hR
set_option maxHeartbeats 4000000 in
set_option maxRecDepth 100000 in
theorem mn_Mod_goesThrough_111 {D : va_G} {cs : CS} {Z : Nat → Nat} {h0 : HS} {p : Program} {l : Launch} {e : Env} {s : State} {m : MethodId} {args : Array Value} {below : List Frame} {meth : Method} {c : Code} {v0 : Nat} (C : mC D cs Z h0 y_Mod_goesThrough c_Mod_goesThrough 15 (some .boolean) p s m args meth c) (post : Int32 → HS → Prop) : ∀ (x2 : Int64) (x4 : Int64) (x6 : Int64) (x8 : Int64) (x10 : Int64) (x12 : Int64) (s0 : Int32) (h : HS) (H : Heap) (locs : List Loc) (ls : Array Slot), wj_Mod_goesThrough_111 Z post v0 x2 x4 x6 x8 x10 x12 s0 h → lv_has ls 15 [(2, .long x2), (4, .long x4), (6, .long x6), (8, .long x8), (10, .long x10), (12, .long x12)] → mR D cs (fA h0 s.heap.size) h s.heap H locs → W p l e ({ frames := 2, cells := 0, slots := 0, locals := 100 } : Room) s m args below meth c H locs 0 0 (MQ below (va_Qi post (mB D cs h0 s.heap.size) (fA h0 s.heap.size)) args s 0 0 (fA h0 s.heap.size)) (F0 m 111 ls [.int s0]) := by
  obtain ⟨hx, hb, hr, hml, hown, hW, hlocks, hnm, hK, hZ⟩ := id C
  have hown : s.vm.findClass "NetJoinsModel" = some m.cls := hown
  have hA : ∀ q, s.heap.size ≤ q → fA h0 s.heap.size q := fun _ h => Or.inr h
  intro x2 x4 x6 x8 x10 x12 s0 h H locs ls hw hl hR
  unfold wj_Mod_goesThrough_111 at hw
  refine lv_istore (i := 14) (lv' := [(14, .int s0), (2, .long x2), (4, .long x4), (6, .long x6), (8, .long x8), (10, .long x10), (12, .long x12)]) hx hb d_Mod_goesThrough_111 hl (by decide) rfl (fun ls hl => ?_)
  refine lv_iload hx hb d_Mod_goesThrough_113 (lv_at hl 0 rfl) ?_
  refine lv_if_eq (tgt := 147) hx hb d_Mod_goesThrough_115 (by decide) (fun c1 => ?_) (fun c1 => ?_)
  · have hw := hw.1 c1
    refine lv_iconst (v := 0) hx hb d_Mod_goesThrough_147 (by decide) ?_
    exact mx_zret hx hb hr hlocks hR (Or.inl rfl) hw d_Mod_goesThrough_148
  · have hw := hw.2 c1
    refine lv_lload hx hb d_Mod_goesThrough_118 (lv_at hl 5 rfl) ?_
    refine lv_lload hx hb d_Mod_goesThrough_120 (lv_at hl 3 rfl) ?_
    refine lv_lsub hx hb d_Mod_goesThrough_122 ?_
    refine lv_lload hx hb d_Mod_goesThrough_123 (lv_at hl 2 rfl) ?_
    refine lv_lload hx hb d_Mod_goesThrough_125 (lv_at hl 4 rfl) ?_
    refine lv_lsub hx hb d_Mod_goesThrough_127 ?_
    refine lv_lmul hx hb d_Mod_goesThrough_128 ?_
    refine lv_lload hx hb d_Mod_goesThrough_129 (lv_at hl 6 rfl) ?_
    refine lv_lload hx hb d_Mod_goesThrough_131 (lv_at hl 4 rfl) ?_
    refine lv_lsub hx hb d_Mod_goesThrough_133 ?_
    refine lv_lload_n hx hb d_Mod_goesThrough_134 rfl (lv_at hl 1 rfl) ?_
    refine lv_lload hx hb d_Mod_goesThrough_135 (lv_at hl 3 rfl) ?_
    refine lv_lsub hx hb d_Mod_goesThrough_137 ?_
    refine lv_lmul hx hb d_Mod_goesThrough_138 ?_
    refine W.lcmp hx hb d_Mod_goesThrough_139 ?_
    refine lv_if_ne (tgt := 147) hx hb d_Mod_goesThrough_140 (by decide) (fun c2 => ?_) (fun c2 => ?_)
    · have hw := hw.1 c2
      refine lv_iconst (v := 0) hx hb d_Mod_goesThrough_147 (by decide) ?_
      exact mx_zret hx hb hr hlocks hR (Or.inl rfl) hw d_Mod_goesThrough_148
    · have hw := hw.2 c2
      refine lv_iconst (v := 1) hx hb d_Mod_goesThrough_143 (by decide) ?_
      refine lv_goto (tgt := 148) hx hb d_Mod_goesThrough_144 (by decide) ?_
      exact mx_zret hx hb hr hlocks hR (Or.inr rfl) hw d_Mod_goesThrough_148
set_option maxHeartbeats 4000000 in
set_option maxRecDepth 100000 in
theorem mn_Mod_goesThrough_110 {D : va_G} {cs : CS} {Z : Nat → Nat} {h0 : HS} {p : Program} {l : Launch} {e : Env} {s : State} {m : MethodId} {args : Array Value} {below : List Frame} {meth : Method} {c : Code} {v0 : Nat} (C : mC D cs Z h0 y_Mod_goesThrough c_Mod_goesThrough 15 (some .boolean) p s m args meth c) (post : Int32 → HS → Prop) : ∀ (x2 : Int64) (x4 : Int64) (x6 : Int64) (x8 : Int64) (x10 : Int64) (x12 : Int64) (h : HS) (H : Heap) (locs : List Loc) (ls : Array Slot), wj_Mod_goesThrough_110 Z post v0 x2 x4 x6 x8 x10 x12 h → lv_has ls 15 [(2, .long x2), (4, .long x4), (6, .long x6), (8, .long x8), (10, .long x10), (12, .long x12)] → mR D cs (fA h0 s.heap.size) h s.heap H locs → W p l e ({ frames := 2, cells := 0, slots := 0, locals := 100 } : Room) s m args below meth c H locs 0 0 (MQ below (va_Qi post (mB D cs h0 s.heap.size) (fA h0 s.heap.size)) args s 0 0 (fA h0 s.heap.size)) (F0 m 110 ls []) := by
  obtain ⟨hx, hb, hr, hml, hown, hW, hlocks, hnm, hK, hZ⟩ := id C
  have hown : s.vm.findClass "NetJoinsModel" = some m.cls := hown
  have hA : ∀ q, s.heap.size ≤ q → fA h0 s.heap.size q := fun _ h => Or.inr h
  intro x2 x4 x6 x8 x10 x12 h H locs ls hw hl hR
  unfold wj_Mod_goesThrough_110 at hw
  refine lv_iconst (v := 0) hx hb d_Mod_goesThrough_110 (by decide) ?_
  exact mn_Mod_goesThrough_111 C post x2 x4 x6 x8 x10 x12 (0 : Int32) _ _ _ _ hw (lv_sub hl [0, 1, 2, 3, 4, 5] rfl) hR
set_option maxHeartbeats 4000000 in
set_option maxRecDepth 100000 in
theorem mn_Mod_goesThrough_106 {D : va_G} {cs : CS} {Z : Nat → Nat} {h0 : HS} {p : Program} {l : Launch} {e : Env} {s : State} {m : MethodId} {args : Array Value} {below : List Frame} {meth : Method} {c : Code} {v0 : Nat} (C : mC D cs Z h0 y_Mod_goesThrough c_Mod_goesThrough 15 (some .boolean) p s m args meth c) (post : Int32 → HS → Prop) : ∀ (x2 : Int64) (x4 : Int64) (x6 : Int64) (x8 : Int64) (x10 : Int64) (x12 : Int64) (h : HS) (H : Heap) (locs : List Loc) (ls : Array Slot), wj_Mod_goesThrough_106 Z post v0 x2 x4 x6 x8 x10 x12 h → lv_has ls 15 [(2, .long x2), (4, .long x4), (6, .long x6), (8, .long x8), (10, .long x10), (12, .long x12)] → mR D cs (fA h0 s.heap.size) h s.heap H locs → W p l e ({ frames := 2, cells := 0, slots := 0, locals := 100 } : Room) s m args below meth c H locs 0 0 (MQ below (va_Qi post (mB D cs h0 s.heap.size) (fA h0 s.heap.size)) args s 0 0 (fA h0 s.heap.size)) (F0 m 106 ls []) := by
  obtain ⟨hx, hb, hr, hml, hown, hW, hlocks, hnm, hK, hZ⟩ := id C
  have hown : s.vm.findClass "NetJoinsModel" = some m.cls := hown
  have hA : ∀ q, s.heap.size ≤ q → fA h0 s.heap.size q := fun _ h => Or.inr h
  intro x2 x4 x6 x8 x10 x12 h H locs ls hw hl hR
  unfold wj_Mod_goesThrough_106 at hw
  refine lv_iconst (v := 1) hx hb d_Mod_goesThrough_106 (by decide) ?_
  refine lv_goto (tgt := 111) hx hb d_Mod_goesThrough_107 (by decide) ?_
  exact mn_Mod_goesThrough_111 C post x2 x4 x6 x8 x10 x12 (1 : Int32) _ _ _ _ hw (lv_sub hl [0, 1, 2, 3, 4, 5] rfl) hR
set_option maxHeartbeats 4000000 in
set_option maxRecDepth 100000 in
theorem mn_Mod_goesThrough_90 {D : va_G} {cs : CS} {Z : Nat → Nat} {h0 : HS} {p : Program} {l : Launch} {e : Env} {s : State} {m : MethodId} {args : Array Value} {below : List Frame} {meth : Method} {c : Code} {v0 : Nat} (C : mC D cs Z h0 y_Mod_goesThrough c_Mod_goesThrough 15 (some .boolean) p s m args meth c) (post : Int32 → HS → Prop) : ∀ (x2 : Int64) (x4 : Int64) (x6 : Int64) (x8 : Int64) (x10 : Int64) (x12 : Int64) (h : HS) (H : Heap) (locs : List Loc) (ls : Array Slot), wj_Mod_goesThrough_90 Z post v0 x2 x4 x6 x8 x10 x12 h → lv_has ls 15 [(2, .long x2), (4, .long x4), (6, .long x6), (8, .long x8), (10, .long x10), (12, .long x12)] → mR D cs (fA h0 s.heap.size) h s.heap H locs → W p l e ({ frames := 2, cells := 0, slots := 0, locals := 100 } : Room) s m args below meth c H locs 0 0 (MQ below (va_Qi post (mB D cs h0 s.heap.size) (fA h0 s.heap.size)) args s 0 0 (fA h0 s.heap.size)) (F0 m 90 ls []) := by
  obtain ⟨hx, hb, hr, hml, hown, hW, hlocks, hnm, hK, hZ⟩ := id C
  have hown : s.vm.findClass "NetJoinsModel" = some m.cls := hown
  have hA : ∀ q, s.heap.size ≤ q → fA h0 s.heap.size q := fun _ h => Or.inr h
  intro x2 x4 x6 x8 x10 x12 h H locs ls hw hl hR
  unfold wj_Mod_goesThrough_90 at hw
  refine lv_lload hx hb d_Mod_goesThrough_90 (lv_at hl 1 rfl) ?_
  refine lv_lload hx hb d_Mod_goesThrough_92 (lv_at hl 5 rfl) ?_
  refine W.lcmp hx hb d_Mod_goesThrough_94 ?_
  refine lv_if_lt (tgt := 110) hx hb d_Mod_goesThrough_95 (by decide) (fun c1 => ?_) (fun c1 => ?_)
  · have hw := hw.1 c1
    exact mn_Mod_goesThrough_110 C post x2 x4 x6 x8 x10 x12 _ _ _ _ hw (lv_sub hl [0, 1, 2, 3, 4, 5] rfl) hR
  · have hw := hw.2 c1
    refine lv_lload hx hb d_Mod_goesThrough_98 (lv_at hl 1 rfl) ?_
    refine lv_lload hx hb d_Mod_goesThrough_100 (lv_at hl 3 rfl) ?_
    refine W.lcmp hx hb d_Mod_goesThrough_102 ?_
    refine lv_if_gt (tgt := 110) hx hb d_Mod_goesThrough_103 (by decide) (fun c2 => ?_) (fun c2 => ?_)
    · have hw := hw.1 c2
      exact mn_Mod_goesThrough_110 C post x2 x4 x6 x8 x10 x12 _ _ _ _ hw (lv_sub hl [0, 1, 2, 3, 4, 5] rfl) hR
    · have hw := hw.2 c2
      exact mn_Mod_goesThrough_106 C post x2 x4 x6 x8 x10 x12 _ _ _ _ hw (lv_sub hl [0, 1, 2, 3, 4, 5] rfl) hR
set_option maxHeartbeats 4000000 in
set_option maxRecDepth 100000 in
theorem mn_Mod_goesThrough_74 {D : va_G} {cs : CS} {Z : Nat → Nat} {h0 : HS} {p : Program} {l : Launch} {e : Env} {s : State} {m : MethodId} {args : Array Value} {below : List Frame} {meth : Method} {c : Code} {v0 : Nat} (C : mC D cs Z h0 y_Mod_goesThrough c_Mod_goesThrough 15 (some .boolean) p s m args meth c) (post : Int32 → HS → Prop) : ∀ (x2 : Int64) (x4 : Int64) (x6 : Int64) (x8 : Int64) (x10 : Int64) (x12 : Int64) (h : HS) (H : Heap) (locs : List Loc) (ls : Array Slot), wj_Mod_goesThrough_74 Z post v0 x2 x4 x6 x8 x10 x12 h → lv_has ls 15 [(2, .long x2), (4, .long x4), (6, .long x6), (8, .long x8), (10, .long x10), (12, .long x12)] → mR D cs (fA h0 s.heap.size) h s.heap H locs → W p l e ({ frames := 2, cells := 0, slots := 0, locals := 100 } : Room) s m args below meth c H locs 0 0 (MQ below (va_Qi post (mB D cs h0 s.heap.size) (fA h0 s.heap.size)) args s 0 0 (fA h0 s.heap.size)) (F0 m 74 ls []) := by
  obtain ⟨hx, hb, hr, hml, hown, hW, hlocks, hnm, hK, hZ⟩ := id C
  have hown : s.vm.findClass "NetJoinsModel" = some m.cls := hown
  have hA : ∀ q, s.heap.size ≤ q → fA h0 s.heap.size q := fun _ h => Or.inr h
  intro x2 x4 x6 x8 x10 x12 h H locs ls hw hl hR
  unfold wj_Mod_goesThrough_74 at hw
  refine lv_lload hx hb d_Mod_goesThrough_74 (lv_at hl 1 rfl) ?_
  refine lv_lload hx hb d_Mod_goesThrough_76 (lv_at hl 3 rfl) ?_
  refine W.lcmp hx hb d_Mod_goesThrough_78 ?_
  refine lv_if_lt (tgt := 90) hx hb d_Mod_goesThrough_79 (by decide) (fun c1 => ?_) (fun c1 => ?_)
  · have hw := hw.1 c1
    exact mn_Mod_goesThrough_90 C post x2 x4 x6 x8 x10 x12 _ _ _ _ hw (lv_sub hl [0, 1, 2, 3, 4, 5] rfl) hR
  · have hw := hw.2 c1
    refine lv_lload hx hb d_Mod_goesThrough_82 (lv_at hl 1 rfl) ?_
    refine lv_lload hx hb d_Mod_goesThrough_84 (lv_at hl 5 rfl) ?_
    refine W.lcmp hx hb d_Mod_goesThrough_86 ?_
    refine lv_if_le (tgt := 106) hx hb d_Mod_goesThrough_87 (by decide) (fun c2 => ?_) (fun c2 => ?_)
    · have hw := hw.1 c2
      exact mn_Mod_goesThrough_106 C post x2 x4 x6 x8 x10 x12 _ _ _ _ hw (lv_sub hl [0, 1, 2, 3, 4, 5] rfl) hR
    · have hw := hw.2 c2
      exact mn_Mod_goesThrough_90 C post x2 x4 x6 x8 x10 x12 _ _ _ _ hw (lv_sub hl [0, 1, 2, 3, 4, 5] rfl) hR
set_option maxHeartbeats 4000000 in
set_option maxRecDepth 100000 in
theorem mn_Mod_goesThrough_60 {D : va_G} {cs : CS} {Z : Nat → Nat} {h0 : HS} {p : Program} {l : Launch} {e : Env} {s : State} {m : MethodId} {args : Array Value} {below : List Frame} {meth : Method} {c : Code} {v0 : Nat} (C : mC D cs Z h0 y_Mod_goesThrough c_Mod_goesThrough 15 (some .boolean) p s m args meth c) (post : Int32 → HS → Prop) : ∀ (x2 : Int64) (x4 : Int64) (x6 : Int64) (x8 : Int64) (x10 : Int64) (x12 : Int64) (h : HS) (H : Heap) (locs : List Loc) (ls : Array Slot), wj_Mod_goesThrough_60 Z post v0 x2 x4 x6 x8 x10 x12 h → lv_has ls 15 [(2, .long x2), (4, .long x4), (6, .long x6), (8, .long x8), (10, .long x10), (12, .long x12)] → mR D cs (fA h0 s.heap.size) h s.heap H locs → W p l e ({ frames := 2, cells := 0, slots := 0, locals := 100 } : Room) s m args below meth c H locs 0 0 (MQ below (va_Qi post (mB D cs h0 s.heap.size) (fA h0 s.heap.size)) args s 0 0 (fA h0 s.heap.size)) (F0 m 60 ls []) := by
  obtain ⟨hx, hb, hr, hml, hown, hW, hlocks, hnm, hK, hZ⟩ := id C
  have hown : s.vm.findClass "NetJoinsModel" = some m.cls := hown
  have hA : ∀ q, s.heap.size ≤ q → fA h0 s.heap.size q := fun _ h => Or.inr h
  intro x2 x4 x6 x8 x10 x12 h H locs ls hw hl hR
  unfold wj_Mod_goesThrough_60 at hw
  refine lv_lload_n hx hb d_Mod_goesThrough_60 rfl (lv_at hl 0 rfl) ?_
  refine lv_lload hx hb d_Mod_goesThrough_61 (lv_at hl 4 rfl) ?_
  refine W.lcmp hx hb d_Mod_goesThrough_63 ?_
  refine lv_if_lt (tgt := 110) hx hb d_Mod_goesThrough_64 (by decide) (fun c1 => ?_) (fun c1 => ?_)
  · have hw := hw.1 c1
    exact mn_Mod_goesThrough_110 C post x2 x4 x6 x8 x10 x12 _ _ _ _ hw (lv_sub hl [0, 1, 2, 3, 4, 5] rfl) hR
  · have hw := hw.2 c1
    refine lv_lload_n hx hb d_Mod_goesThrough_67 rfl (lv_at hl 0 rfl) ?_
    refine lv_lload hx hb d_Mod_goesThrough_68 (lv_at hl 2 rfl) ?_
    refine W.lcmp hx hb d_Mod_goesThrough_70 ?_
    refine lv_if_gt (tgt := 110) hx hb d_Mod_goesThrough_71 (by decide) (fun c2 => ?_) (fun c2 => ?_)
    · have hw := hw.1 c2
      exact mn_Mod_goesThrough_110 C post x2 x4 x6 x8 x10 x12 _ _ _ _ hw (lv_sub hl [0, 1, 2, 3, 4, 5] rfl) hR
    · have hw := hw.2 c2
      exact mn_Mod_goesThrough_74 C post x2 x4 x6 x8 x10 x12 _ _ _ _ hw (lv_sub hl [0, 1, 2, 3, 4, 5] rfl) hR
set_option maxHeartbeats 4000000 in
set_option maxRecDepth 100000 in
theorem mt_Mod_goesThrough (l : Launch) (D : va_G) (cs : CS) (Z : Nat → Nat) (sz : Nat) {post : Int32 → HS → Prop} {h : HS} {v0 : Nat} {x1 : Int32} {x2 : Int64} {x4 : Int64} (hw : wp_Mod_goesThrough Z post h v0 x1 x2 x4) : Met l y_Mod_goesThrough (Cond.code y_Mod_goesThrough c_Mod_goesThrough 15 (some .boolean) :: WA) ({ frames := 2, cells := 0, slots := 0, locals := 100 } : Room) (mPc D cs Z h sz [va_rf (some v0), .int x1, .long x2, .long x4]) (va_Qi post (mB D cs h sz) (fA h sz)) 0 0 (fA h sz) := by
  refine mx_met (fun sz => va_Qi post (mB D cs h sz) (fA h sz)) (by decide) (by simp [lg_sl, mx_rf_cat, cat_i, cat_l]) ?_
  intro p e s m args below meth c C hR ls hl
  have hl : lv_has ls 15 [(0, va_rf (some v0)), (1, .int x1), (2, .long x2), (4, .long x4)] := hl
  obtain ⟨hx, hb, hr, hml, hown, hW, hlocks, hnm, hK, hZ⟩ := id C
  have hown : s.vm.findClass "NetJoinsModel" = some m.cls := hown
  have hA : ∀ q, s.heap.size ≤ q → fA h s.heap.size q := fun _ h => Or.inr h
  unfold wp_Mod_goesThrough at hw
  refine mx_aload_n (r := some v0) hx hb d_Mod_goesThrough_0 rfl (lv_at hl 0 rfl) ?_
  obtain ⟨t1, hw⟩ := hw
  refine mx_get (ci := 8) (C := "NetJoinsModel") (T := F_Mod) (N := 33) hx hb hW hown hK.1 hR (a := v0) rfl t1 rfl i_Mod 6 2 (by decide) rfl kw_1141 (fun _ h9 => h9) d_Mod_goesThrough_1 ?_
  refine lv_iconst (v := 4) hx hb d_Mod_goesThrough_4 (by decide) ?_
  refine lv_iload_n hx hb d_Mod_goesThrough_5 rfl (lv_at hl 1 rfl) ?_
  refine lv_imul hx hb d_Mod_goesThrough_6 ?_
  obtain ⟨a2, ea2, t3, t3i, hw⟩ := hw
  refine mx_lald hx hb hK.1 hR (a := a2) ea2 t3 t3i d_Mod_goesThrough_7 ?_
  refine lv_topl (fun y4 ey4 => ?_)
  have hw := hw y4 ey4
  refine lv_lstore (i := 6) (lv' := [(6, .long y4), (0, va_rf (some v0)), (1, .int x1), (2, .long x2), (4, .long x4)]) hx hb d_Mod_goesThrough_8 hl (by decide) rfl (fun ls hl => ?_)
  refine mx_aload_n (r := some v0) hx hb d_Mod_goesThrough_10 rfl (lv_at hl 1 rfl) ?_
  obtain ⟨t5, hw⟩ := hw
  refine mx_get (ci := 8) (C := "NetJoinsModel") (T := F_Mod) (N := 33) hx hb hW hown hK.1 hR (a := v0) rfl t5 rfl i_Mod 6 2 (by decide) rfl kw_1141 (fun _ h9 => h9) d_Mod_goesThrough_11 ?_
  refine lv_iconst (v := 4) hx hb d_Mod_goesThrough_14 (by decide) ?_
  refine lv_iload_n hx hb d_Mod_goesThrough_15 rfl (lv_at hl 2 rfl) ?_
  refine lv_imul hx hb d_Mod_goesThrough_16 ?_
  refine lv_iconst (v := 1) hx hb d_Mod_goesThrough_17 (by decide) ?_
  refine lv_iadd hx hb d_Mod_goesThrough_18 ?_
  obtain ⟨a6, ea6, t7, t7i, hw⟩ := hw
  refine mx_lald hx hb hK.1 hR (a := a6) ea6 t7 t7i d_Mod_goesThrough_19 ?_
  refine lv_topl (fun y8 ey8 => ?_)
  have hw := hw y8 ey8
  refine lv_lstore (i := 8) (lv' := [(8, .long y8), (6, .long y4), (0, va_rf (some v0)), (1, .int x1), (2, .long x2), (4, .long x4)]) hx hb d_Mod_goesThrough_20 hl (by decide) rfl (fun ls hl => ?_)
  refine mx_aload_n (r := some v0) hx hb d_Mod_goesThrough_22 rfl (lv_at hl 2 rfl) ?_
  obtain ⟨t9, hw⟩ := hw
  refine mx_get (ci := 8) (C := "NetJoinsModel") (T := F_Mod) (N := 33) hx hb hW hown hK.1 hR (a := v0) rfl t9 rfl i_Mod 6 2 (by decide) rfl kw_1141 (fun _ h9 => h9) d_Mod_goesThrough_23 ?_
  refine lv_iconst (v := 4) hx hb d_Mod_goesThrough_26 (by decide) ?_
  refine lv_iload_n hx hb d_Mod_goesThrough_27 rfl (lv_at hl 3 rfl) ?_
  refine lv_imul hx hb d_Mod_goesThrough_28 ?_
  refine lv_iconst (v := 2) hx hb d_Mod_goesThrough_29 (by decide) ?_
  refine lv_iadd hx hb d_Mod_goesThrough_30 ?_
  obtain ⟨a10, ea10, t11, t11i, hw⟩ := hw
  refine mx_lald hx hb hK.1 hR (a := a10) ea10 t11 t11i d_Mod_goesThrough_31 ?_
  refine lv_topl (fun y12 ey12 => ?_)
  have hw := hw y12 ey12
  refine lv_lstore (i := 10) (lv' := [(10, .long y12), (8, .long y8), (6, .long y4), (0, va_rf (some v0)), (1, .int x1), (2, .long x2), (4, .long x4)]) hx hb d_Mod_goesThrough_32 hl (by decide) rfl (fun ls hl => ?_)
  refine mx_aload_n (r := some v0) hx hb d_Mod_goesThrough_34 rfl (lv_at hl 3 rfl) ?_
  obtain ⟨t13, hw⟩ := hw
  refine mx_get (ci := 8) (C := "NetJoinsModel") (T := F_Mod) (N := 33) hx hb hW hown hK.1 hR (a := v0) rfl t13 rfl i_Mod 6 2 (by decide) rfl kw_1141 (fun _ h9 => h9) d_Mod_goesThrough_35 ?_
  refine lv_iconst (v := 4) hx hb d_Mod_goesThrough_38 (by decide) ?_
  refine lv_iload_n hx hb d_Mod_goesThrough_39 rfl (lv_at hl 4 rfl) ?_
  refine lv_imul hx hb d_Mod_goesThrough_40 ?_
  refine lv_iconst (v := 3) hx hb d_Mod_goesThrough_41 (by decide) ?_
  refine lv_iadd hx hb d_Mod_goesThrough_42 ?_
  obtain ⟨a14, ea14, t15, t15i, hw⟩ := hw
  refine mx_lald hx hb hK.1 hR (a := a14) ea14 t15 t15i d_Mod_goesThrough_43 ?_
  refine lv_topl (fun y16 ey16 => ?_)
  have hw := hw y16 ey16
  refine lv_lstore (i := 12) (lv' := [(12, .long y16), (10, .long y12), (8, .long y8), (6, .long y4), (0, va_rf (some v0)), (1, .int x1), (2, .long x2), (4, .long x4)]) hx hb d_Mod_goesThrough_44 hl (by decide) rfl (fun ls hl => ?_)
  refine lv_lload_n hx hb d_Mod_goesThrough_46 rfl (lv_at hl 6 rfl) ?_
  refine lv_lload hx hb d_Mod_goesThrough_47 (lv_at hl 3 rfl) ?_
  refine W.lcmp hx hb d_Mod_goesThrough_49 ?_
  refine lv_if_lt (tgt := 60) hx hb d_Mod_goesThrough_50 (by decide) (fun c17 => ?_) (fun c17 => ?_)
  · have hw := hw.1 c17
    exact mn_Mod_goesThrough_60 C post x2 x4 y4 y8 y12 y16 _ _ _ _ hw (lv_sub hl [6, 7, 3, 2, 1, 0] rfl) hR
  · have hw := hw.2 c17
    refine lv_lload_n hx hb d_Mod_goesThrough_53 rfl (lv_at hl 6 rfl) ?_
    refine lv_lload hx hb d_Mod_goesThrough_54 (lv_at hl 1 rfl) ?_
    refine W.lcmp hx hb d_Mod_goesThrough_56 ?_
    refine lv_if_le (tgt := 74) hx hb d_Mod_goesThrough_57 (by decide) (fun c18 => ?_) (fun c18 => ?_)
    · have hw := hw.1 c18
      exact mn_Mod_goesThrough_74 C post x2 x4 y4 y8 y12 y16 _ _ _ _ hw (lv_sub hl [6, 7, 3, 2, 1, 0] rfl) hR
    · have hw := hw.2 c18
      exact mn_Mod_goesThrough_60 C post x2 x4 y4 y8 y12 y16 _ _ _ _ hw (lv_sub hl [6, 7, 3, 2, 1, 0] rfl) hR
set_option maxHeartbeats 4000000 in
set_option maxRecDepth 100000 in
theorem mn_Mod_leader_2 {D : va_G} {cs : CS} {Z : Nat → Nat} {h0 : HS} {p : Program} {l : Launch} {e : Env} {s : State} {m : MethodId} {args : Array Value} {below : List Frame} {meth : Method} {c : Code} {v0 : Nat} (C : mC D cs Z h0 y_Mod_leader c_Mod_leader 3 (some .int) p s m args meth c) (post : Int32 → HS → Prop) : ∀ (n : Nat) (x2 : Int32) (h : HS) (H : Heap) (locs : List Loc) (ls : Array Slot), lpF (wb_Mod_leader_2 Z post v0) n (x2, h) → lv_has ls 3 [(0, va_rf (some v0)), (2, .int x2)] → mR D cs (fA h0 s.heap.size) h s.heap H locs → W p l e ({ frames := 2, cells := 0, slots := 0, locals := 100 } : Room) s m args below meth c H locs 0 0 (MQ below (va_Qi post (mB D cs h0 s.heap.size) (fA h0 s.heap.size)) args s 0 0 (fA h0 s.heap.size)) (F0 m 2 ls []) := by
  obtain ⟨hx, hb, hr, hml, hown, hW, hlocks, hnm, hK, hZ⟩ := id C
  have hown : s.vm.findClass "NetJoinsModel" = some m.cls := hown
  have hA : ∀ q, s.heap.size ≤ q → fA h0 s.heap.size q := fun _ h => Or.inr h
  intro n
  induction n with
  | zero => intro x2 h H locs ls hw; exact hw.elim
  | succ n ih =>
    intro x2 h H locs ls hw hl hR
    have hw : wb_Mod_leader_2 Z post v0 (lpF (wb_Mod_leader_2 Z post v0) n) (x2, h) := hw
    unfold wb_Mod_leader_2 at hw
    dsimp only at hw
    refine mx_aload_n (r := some v0) hx hb d_Mod_leader_2 rfl (lv_at hl 0 rfl) ?_
    obtain ⟨t1, hw⟩ := hw
    refine mx_get (ci := 8) (C := "NetJoinsModel") (T := F_Mod) (N := 33) hx hb hW hown hK.1 hR (a := v0) rfl t1 rfl i_Mod 25 2 (by decide) rfl kw_1160 (fun _ h9 => h9) d_Mod_leader_3 ?_
    refine lv_iload_n hx hb d_Mod_leader_6 rfl (lv_at hl 1 rfl) ?_
    obtain ⟨a2, ea2, t3, t3i, hw⟩ := hw
    refine mx_iald hx hb hK.1 hR (a := a2) ea2 t3 t3i d_Mod_leader_7 ?_
    refine lv_iload_n hx hb d_Mod_leader_8 rfl (lv_at hl 1 rfl) ?_
    refine lv_icmp_eq (tgt := 22) hx hb d_Mod_leader_9 (by decide) (fun c4 => ?_) (fun c4 => ?_)
    · have hw := hw.1 c4
      refine lv_iload_n hx hb d_Mod_leader_22 rfl (lv_at hl 1 rfl) ?_
      exact mx_iret hx hb hr hlocks hR hw d_Mod_leader_23
    · have hw := hw.2 c4
      refine mx_aload_n (r := some v0) hx hb d_Mod_leader_12 rfl (lv_at hl 0 rfl) ?_
      obtain ⟨t5, hw⟩ := hw
      refine mx_get (ci := 8) (C := "NetJoinsModel") (T := F_Mod) (N := 33) hx hb hW hown hK.1 hR (a := v0) rfl t5 rfl i_Mod 25 2 (by decide) rfl kw_1160 (fun _ h9 => h9) d_Mod_leader_13 ?_
      refine lv_iload_n hx hb d_Mod_leader_16 rfl (lv_at hl 1 rfl) ?_
      obtain ⟨a6, ea6, t7, t7i, hw⟩ := hw
      refine mx_iald hx hb hK.1 hR (a := a6) ea6 t7 t7i d_Mod_leader_17 ?_
      refine lv_topi (fun y8 ey8 => ?_)
      have hw := hw y8 ey8
      refine lv_istore_n (i := 2) (lv' := [(2, .int y8), (0, va_rf (some v0))]) hx hb d_Mod_leader_18 rfl hl (by decide) rfl (fun ls hl => ?_)
      refine lv_goto (tgt := 2) hx hb d_Mod_leader_19 (by decide) ?_
      exact ih y8 _ _ _ _ hw (lv_sub hl [1, 0] rfl) hR
set_option maxHeartbeats 4000000 in
set_option maxRecDepth 100000 in
theorem mt_Mod_leader (l : Launch) (D : va_G) (cs : CS) (Z : Nat → Nat) (sz : Nat) {post : Int32 → HS → Prop} {h : HS} {v0 : Nat} {x1 : Int32} (hw : wp_Mod_leader Z post h v0 x1) : Met l y_Mod_leader (Cond.code y_Mod_leader c_Mod_leader 3 (some .int) :: WA) ({ frames := 2, cells := 0, slots := 0, locals := 100 } : Room) (mPc D cs Z h sz [va_rf (some v0), .int x1]) (va_Qi post (mB D cs h sz) (fA h sz)) 0 0 (fA h sz) := by
  refine mx_met (fun sz => va_Qi post (mB D cs h sz) (fA h sz)) (by decide) (by simp [lg_sl, mx_rf_cat, cat_i, cat_l]) ?_
  intro p e s m args below meth c C hR ls hl
  have hl : lv_has ls 3 [(0, va_rf (some v0)), (1, .int x1)] := hl
  obtain ⟨hx, hb, hr, hml, hown, hW, hlocks, hnm, hK, hZ⟩ := id C
  have hown : s.vm.findClass "NetJoinsModel" = some m.cls := hown
  have hA : ∀ q, s.heap.size ≤ q → fA h s.heap.size q := fun _ h => Or.inr h
  unfold wp_Mod_leader at hw
  refine lv_iload_n hx hb d_Mod_leader_0 rfl (lv_at hl 1 rfl) ?_
  refine lv_istore_n (i := 2) (lv' := [(2, .int x1), (0, va_rf (some v0)), (1, .int x1)]) hx hb d_Mod_leader_1 rfl hl (by decide) rfl (fun ls hl => ?_)
  obtain ⟨n9, hw⟩ := hw
  exact mn_Mod_leader_2 C post n9 x1 _ _ _ _ hw (lv_sub hl [1, 0] rfl) hR
set_option maxHeartbeats 4000000 in
set_option maxRecDepth 100000 in
theorem mn_Mod_join_55 {D : va_G} {cs : CS} {Z : Nat → Nat} {h0 : HS} {p : Program} {l : Launch} {e : Env} {s : State} {m : MethodId} {args : Array Value} {below : List Frame} {meth : Method} {c : Code} {v0 : Nat} (C : mC D cs Z h0 y_Mod_join c_Mod_join 5 none p s m args meth c) (post : HS → Prop) : ∀ (x2 : Int32) (x3 : Int32) (x4 : Int32) (s0 : Int32) (s1 : Int32) (s2 : Option Nat) (h : HS) (H : Heap) (locs : List Loc) (ls : Array Slot), wj_Mod_join_55 Z post v0 x2 x3 x4 s0 s1 s2 h → lv_has ls 5 [(0, va_rf (some v0)), (2, .int x2), (3, .int x3), (4, .int x4)] → mR D cs (fA h0 s.heap.size) h s.heap H locs → W p l e ({ frames := 3, cells := 0, slots := 0, locals := 122 } : Room) s m args below meth c H locs 0 0 (MQ below (va_Qv post (mB D cs h0 s.heap.size) (fA h0 s.heap.size)) args s 0 0 (fA h0 s.heap.size)) (F0 m 55 ls [.int s0, .int s1, va_rf s2]) := by
  obtain ⟨hx, hb, hr, hml, hown, hW, hlocks, hnm, hK, hZ⟩ := id C
  have hown : s.vm.findClass "NetJoinsModel" = some m.cls := hown
  have hA : ∀ q, s.heap.size ≤ q → fA h0 s.heap.size q := fun _ h => Or.inr h
  intro x2 x3 x4 s0 s1 s2 h H locs ls hw hl hR
  unfold wj_Mod_join_55 at hw
  obtain ⟨a1, ea1, t2, t2i, hw⟩ := hw
  refine mx_iast hx hb hK.1 hR (a := a1) ea1 t2 t2i d_Mod_join_55 (fun H locs hR => ?_)
  obtain ⟨h3, eh3⟩ : ∃ z, z = sA h a1 s1.toNatClampNeg s0 := ⟨_, rfl⟩
  rw [← eh3] at hR
  have hw := hw h3 eh3
  refine mx_aload_n (r := some v0) hx hb d_Mod_join_56 rfl (lv_at hl 0 rfl) ?_
  obtain ⟨t4, hw⟩ := hw
  refine mx_get (ci := 8) (C := "NetJoinsModel") (T := F_Mod) (N := 33) hx hb hW hown hK.1 hR (a := v0) rfl t4 rfl i_Mod 25 2 (by decide) rfl kw_1160 (fun _ h9 => h9) d_Mod_join_57 ?_
  refine lv_iload_n hx hb d_Mod_join_60 rfl (lv_at hl 1 rfl) ?_
  refine lv_iload_n hx hb d_Mod_join_61 rfl (lv_at hl 2 rfl) ?_
  refine lv_iload hx hb d_Mod_join_62 (lv_at hl 3 rfl) ?_
  refine lv_icmp_ge (tgt := 71) hx hb d_Mod_join_64 (by decide) (fun c5 => ?_) (fun c5 => ?_)
  · have hw := hw.1 c5
    refine lv_iload hx hb d_Mod_join_71 (lv_at hl 3 rfl) ?_
    obtain ⟨a6, ea6, t7, t7i, hw⟩ := hw
    refine mx_iast hx hb hK.1 hR (a := a6) ea6 t7 t7i d_Mod_join_73 (fun H locs hR => ?_)
    obtain ⟨h8, eh8⟩ : ∃ z, z = sA h3 a6 x2.toNatClampNeg x4 := ⟨_, rfl⟩
    rw [← eh8] at hR
    have hw := hw h8 eh8
    exact mx_vret hx hb hr hlocks hR hw d_Mod_join_74
  · have hw := hw.2 c5
    refine lv_iload_n hx hb d_Mod_join_67 rfl (lv_at hl 2 rfl) ?_
    refine lv_goto (tgt := 73) hx hb d_Mod_join_68 (by decide) ?_
    obtain ⟨a9, ea9, t10, t10i, hw⟩ := hw
    refine mx_iast hx hb hK.1 hR (a := a9) ea9 t10 t10i d_Mod_join_73 (fun H locs hR => ?_)
    obtain ⟨h11, eh11⟩ : ∃ z, z = sA h3 a9 x2.toNatClampNeg x3 := ⟨_, rfl⟩
    rw [← eh11] at hR
    have hw := hw h11 eh11
    exact mx_vret hx hb hr hlocks hR hw d_Mod_join_74
set_option maxHeartbeats 4000000 in
set_option maxRecDepth 100000 in
theorem mn_Mod_join_38 {D : va_G} {cs : CS} {Z : Nat → Nat} {h0 : HS} {p : Program} {l : Launch} {e : Env} {s : State} {m : MethodId} {args : Array Value} {below : List Frame} {meth : Method} {c : Code} {v0 : Nat} (C : mC D cs Z h0 y_Mod_join c_Mod_join 5 none p s m args meth c) (post : HS → Prop) : ∀ (x1 : Int32) (x2 : Int32) (x3 : Int32) (x4 : Int32) (h : HS) (H : Heap) (locs : List Loc) (ls : Array Slot), wj_Mod_join_38 Z post v0 x1 x2 x3 x4 h → lv_has ls 5 [(0, va_rf (some v0)), (1, .int x1), (2, .int x2), (3, .int x3), (4, .int x4)] → mR D cs (fA h0 s.heap.size) h s.heap H locs → W p l e ({ frames := 3, cells := 0, slots := 0, locals := 122 } : Room) s m args below meth c H locs 0 0 (MQ below (va_Qv post (mB D cs h0 s.heap.size) (fA h0 s.heap.size)) args s 0 0 (fA h0 s.heap.size)) (F0 m 38 ls []) := by
  obtain ⟨hx, hb, hr, hml, hown, hW, hlocks, hnm, hK, hZ⟩ := id C
  have hown : s.vm.findClass "NetJoinsModel" = some m.cls := hown
  have hA : ∀ q, s.heap.size ≤ q → fA h0 s.heap.size q := fun _ h => Or.inr h
  intro x1 x2 x3 x4 h H locs ls hw hl hR
  unfold wj_Mod_join_38 at hw
  refine mx_aload_n (r := some v0) hx hb d_Mod_join_38 rfl (lv_at hl 0 rfl) ?_
  obtain ⟨t1, hw⟩ := hw
  refine mx_get (ci := 8) (C := "NetJoinsModel") (T := F_Mod) (N := 33) hx hb hW hown hK.1 hR (a := v0) rfl t1 rfl i_Mod 25 2 (by decide) rfl kw_1160 (fun _ h9 => h9) d_Mod_join_39 ?_
  refine lv_iload_n hx hb d_Mod_join_42 rfl (lv_at hl 1 rfl) ?_
  refine lv_iload_n hx hb d_Mod_join_43 rfl (lv_at hl 3 rfl) ?_
  refine lv_iload hx hb d_Mod_join_44 (lv_at hl 4 rfl) ?_
  refine lv_icmp_ge (tgt := 53) hx hb d_Mod_join_46 (by decide) (fun c2 => ?_) (fun c2 => ?_)
  · have hw := hw.1 c2
    refine lv_iload hx hb d_Mod_join_53 (lv_at hl 4 rfl) ?_
    exact mn_Mod_join_55 C post x2 x3 x4 x4 x1 (gR h 825 v0) _ _ _ _ hw (lv_sub hl [0, 2, 3, 4] rfl) hR
  · have hw := hw.2 c2
    refine lv_iload_n hx hb d_Mod_join_49 rfl (lv_at hl 3 rfl) ?_
    refine lv_goto (tgt := 55) hx hb d_Mod_join_50 (by decide) ?_
    exact mn_Mod_join_55 C post x2 x3 x4 x3 x1 (gR h 825 v0) _ _ _ _ hw (lv_sub hl [0, 2, 3, 4] rfl) hR
set_option maxHeartbeats 4000000 in
set_option maxRecDepth 100000 in
theorem mt_Mod_join (l : Launch) (D : va_G) (cs : CS) (Z : Nat → Nat) (sz : Nat) {post : HS → Prop} {h : HS} {v0 : Nat} {x1 : Int32} {x2 : Int32} (hw : wp_Mod_join Z post h v0 x1 x2) : Met l y_Mod_join (Cond.code y_Mod_join c_Mod_join 5 none :: WA) ({ frames := 3, cells := 0, slots := 0, locals := 122 } : Room) (mPc D cs Z h sz [va_rf (some v0), .int x1, .int x2]) (va_Qv post (mB D cs h sz) (fA h sz)) 0 0 (fA h sz) := by
  refine mx_met (fun sz => va_Qv post (mB D cs h sz) (fA h sz)) (by decide) (by simp [lg_sl, mx_rf_cat, cat_i, cat_l]) ?_
  intro p e s m args below meth c C hR ls hl
  have hl : lv_has ls 5 [(0, va_rf (some v0)), (1, .int x1), (2, .int x2)] := hl
  obtain ⟨hx, hb, hr, hml, hown, hW, hlocks, hnm, hK, hZ⟩ := id C
  have hown : s.vm.findClass "NetJoinsModel" = some m.cls := hown
  have hA : ∀ q, s.heap.size ≤ q → fA h s.heap.size q := fun _ h => Or.inr h
  unfold wp_Mod_join at hw
  refine mx_aload_n (r := some v0) hx hb d_Mod_join_0 rfl (lv_at hl 0 rfl) ?_
  refine lv_iload_n hx hb d_Mod_join_1 rfl (lv_at hl 1 rfl) ?_
  obtain ⟨t3, hw⟩ := hw
  refine mx_calli (va_runV (b := v0) (As := [.int x1]) (rest := []) ⟨hx, hb, hml, hown, hW⟩ (mt_Mod_leader l D cs Z _ hw) (mx_cwV hW ok_Mod_leader kw_1280 rfl rfl ⟨Nat.le_of_ble_eq_true rfl, Nat.le_of_ble_eq_true rfl⟩) (mx_preV hK hZ hA hR (ci := 8) rfl t3) rfl rfl hl.1 rfl (lv_room (Nat.le_of_ble_eq_true rfl)) d_Mod_join_2 ⟨Nat.le_of_ble_eq_true rfl, Nat.le_of_ble_eq_true rfl⟩) hR hA (fun r1 h2 H locs hw hR => ?_)
  try dsimp only at hw
  refine lv_istore_n (i := 3) (lv' := [(3, .int r1), (0, va_rf (some v0)), (1, .int x1), (2, .int x2)]) hx hb d_Mod_join_5 rfl hl (by decide) rfl (fun ls hl => ?_)
  refine mx_aload_n (r := some v0) hx hb d_Mod_join_6 rfl (lv_at hl 1 rfl) ?_
  refine lv_iload_n hx hb d_Mod_join_7 rfl (lv_at hl 3 rfl) ?_
  obtain ⟨t6, hw⟩ := hw
  refine mx_calli (va_runV (b := v0) (As := [.int x2]) (rest := []) ⟨hx, hb, hml, hown, hW⟩ (mt_Mod_leader l D cs Z _ hw) (mx_cwV hW ok_Mod_leader kw_1280 rfl rfl ⟨Nat.le_of_ble_eq_true rfl, Nat.le_of_ble_eq_true rfl⟩) (mx_preV hK hZ hA hR (ci := 8) rfl t6) rfl rfl hl.1 rfl (lv_room (Nat.le_of_ble_eq_true rfl)) d_Mod_join_8 ⟨Nat.le_of_ble_eq_true rfl, Nat.le_of_ble_eq_true rfl⟩) hR hA (fun r4 h5 H locs hw hR => ?_)
  try dsimp only at hw
  refine lv_istore (i := 4) (lv' := [(4, .int r4), (3, .int r1), (0, va_rf (some v0)), (1, .int x1), (2, .int x2)]) hx hb d_Mod_join_11 hl (by decide) rfl (fun ls hl => ?_)
  refine lv_iload_n hx hb d_Mod_join_13 rfl (lv_at hl 1 rfl) ?_
  refine lv_iload hx hb d_Mod_join_14 (lv_at hl 0 rfl) ?_
  refine lv_icmp_ge (tgt := 30) hx hb d_Mod_join_16 (by decide) (fun c7 => ?_) (fun c7 => ?_)
  · have hw := hw.1 c7
    refine mx_aload_n (r := some v0) hx hb d_Mod_join_30 rfl (lv_at hl 2 rfl) ?_
    obtain ⟨t8, hw⟩ := hw
    refine mx_get (ci := 8) (C := "NetJoinsModel") (T := F_Mod) (N := 33) hx hb hW hown hK.1 hR (a := v0) rfl t8 rfl i_Mod 25 2 (by decide) rfl kw_1160 (fun _ h9 => h9) d_Mod_join_31 ?_
    refine lv_iload_n hx hb d_Mod_join_34 rfl (lv_at hl 1 rfl) ?_
    refine lv_iload hx hb d_Mod_join_35 (lv_at hl 0 rfl) ?_
    obtain ⟨a9, ea9, t10, t10i, hw⟩ := hw
    refine mx_iast hx hb hK.1 hR (a := a9) ea9 t10 t10i d_Mod_join_37 (fun H locs hR => ?_)
    obtain ⟨h11, eh11⟩ : ∃ z, z = sA h5 a9 r1.toNatClampNeg r4 := ⟨_, rfl⟩
    rw [← eh11] at hR
    have hw := hw h11 eh11
    exact mn_Mod_join_38 C post x1 x2 r1 r4 _ _ _ _ hw (lv_sub hl [2, 3, 4, 1, 0] rfl) hR
  · have hw := hw.2 c7
    refine mx_aload_n (r := some v0) hx hb d_Mod_join_19 rfl (lv_at hl 2 rfl) ?_
    obtain ⟨t12, hw⟩ := hw
    refine mx_get (ci := 8) (C := "NetJoinsModel") (T := F_Mod) (N := 33) hx hb hW hown hK.1 hR (a := v0) rfl t12 rfl i_Mod 25 2 (by decide) rfl kw_1160 (fun _ h9 => h9) d_Mod_join_20 ?_
    refine lv_iload hx hb d_Mod_join_23 (lv_at hl 0 rfl) ?_
    refine lv_iload_n hx hb d_Mod_join_25 rfl (lv_at hl 1 rfl) ?_
    obtain ⟨a13, ea13, t14, t14i, hw⟩ := hw
    refine mx_iast hx hb hK.1 hR (a := a13) ea13 t14 t14i d_Mod_join_26 (fun H locs hR => ?_)
    obtain ⟨h15, eh15⟩ : ∃ z, z = sA h5 a13 r4.toNatClampNeg r1 := ⟨_, rfl⟩
    rw [← eh15] at hR
    have hw := hw h15 eh15
    refine lv_goto (tgt := 38) hx hb d_Mod_join_27 (by decide) ?_
    exact mn_Mod_join_38 C post x1 x2 r1 r4 _ _ _ _ hw (lv_sub hl [2, 3, 4, 1, 0] rfl) hR
set_option maxHeartbeats 4000000 in
set_option maxRecDepth 100000 in
theorem mn_Mod_joinWires_192 {D : va_G} {cs : CS} {Z : Nat → Nat} {h0 : HS} {p : Program} {l : Launch} {e : Env} {s : State} {m : MethodId} {args : Array Value} {below : List Frame} {meth : Method} {c : Code} {v0 : Nat} (C : mC D cs Z h0 y_Mod_joinWires c_Mod_joinWires 8 none p s m args meth c) (post : HS → Prop) (K2 : Int32 × Int32 × Int32 × HS → Prop) (K13 : Int32 × Int32 × Int32 × Int32 × HS → Prop) (hK2 : ∀ (x1 : Int32) (x2 : Int32) (x3 : Int32) (h : HS) (H : Heap) (locs : List Loc) (ls : Array Slot), K2 (x1, x2, x3, h) → lv_has ls 8 [(0, va_rf (some v0)), (1, .int x1), (2, .int x2), (3, .int x3)] → mR D cs (fA h0 s.heap.size) h s.heap H locs → W p l e ({ frames := 4, cells := 0, slots := 0, locals := 146 } : Room) s m args below meth c H locs 0 0 (MQ below (va_Qv post (mB D cs h0 s.heap.size) (fA h0 s.heap.size)) args s 0 0 (fA h0 s.heap.size)) (F0 m 2 ls [])) (hK13 : ∀ (x1 : Int32) (x2 : Int32) (x3 : Int32) (x4 : Int32) (h : HS) (H : Heap) (locs : List Loc) (ls : Array Slot), K13 (x1, x2, x3, x4, h) → lv_has ls 8 [(0, va_rf (some v0)), (1, .int x1), (2, .int x2), (3, .int x3), (4, .int x4)] → mR D cs (fA h0 s.heap.size) h s.heap H locs → W p l e ({ frames := 4, cells := 0, slots := 0, locals := 146 } : Room) s m args below meth c H locs 0 0 (MQ below (va_Qv post (mB D cs h0 s.heap.size) (fA h0 s.heap.size)) args s 0 0 (fA h0 s.heap.size)) (F0 m 13 ls [])) : ∀ (x1 : Int32) (x2 : Int32) (x3 : Int32) (x4 : Int32) (h : HS) (H : Heap) (locs : List Loc) (ls : Array Slot), wj_Mod_joinWires_192 Z post K2 K13 v0 x1 x2 x3 x4 h → lv_has ls 8 [(0, va_rf (some v0)), (1, .int x1), (2, .int x2), (3, .int x3), (4, .int x4)] → mR D cs (fA h0 s.heap.size) h s.heap H locs → W p l e ({ frames := 4, cells := 0, slots := 0, locals := 146 } : Room) s m args below meth c H locs 0 0 (MQ below (va_Qv post (mB D cs h0 s.heap.size) (fA h0 s.heap.size)) args s 0 0 (fA h0 s.heap.size)) (F0 m 192 ls []) := by
  obtain ⟨hx, hb, hr, hml, hown, hW, hlocks, hnm, hK, hZ⟩ := id C
  have hown : s.vm.findClass "NetJoinsModel" = some m.cls := hown
  have hA : ∀ q, s.heap.size ≤ q → fA h0 s.heap.size q := fun _ h => Or.inr h
  intro x1 x2 x3 x4 h H locs ls hw hl hR
  unfold wj_Mod_joinWires_192 at hw
  obtain ⟨y1, ey1⟩ : ∃ y : Int32, y = x4 + (1 : Int32) := ⟨_, rfl⟩
  have hw := hw y1 ey1
  refine lv_iinc (v := y1) (lv' := [(4, .int y1), (0, va_rf (some v0)), (1, .int x1), (2, .int x2), (3, .int x3)]) hx hb d_Mod_joinWires_192 hl (k := 4) rfl (by rw [ey1]; rfl) (by decide) rfl (fun ls hl => ?_)
  refine lv_goto (tgt := 13) hx hb d_Mod_joinWires_195 (by decide) ?_
  exact hK13 x1 x2 x3 y1 _ _ _ _ hw (lv_sub hl [1, 2, 3, 4, 0] rfl) hR
set_option maxHeartbeats 4000000 in
set_option maxRecDepth 100000 in
theorem mn_Mod_joinWires_170 {D : va_G} {cs : CS} {Z : Nat → Nat} {h0 : HS} {p : Program} {l : Launch} {e : Env} {s : State} {m : MethodId} {args : Array Value} {below : List Frame} {meth : Method} {c : Code} {v0 : Nat} (C : mC D cs Z h0 y_Mod_joinWires c_Mod_joinWires 8 none p s m args meth c) (post : HS → Prop) (K2 : Int32 × Int32 × Int32 × HS → Prop) (K13 : Int32 × Int32 × Int32 × Int32 × HS → Prop) (hK2 : ∀ (x1 : Int32) (x2 : Int32) (x3 : Int32) (h : HS) (H : Heap) (locs : List Loc) (ls : Array Slot), K2 (x1, x2, x3, h) → lv_has ls 8 [(0, va_rf (some v0)), (1, .int x1), (2, .int x2), (3, .int x3)] → mR D cs (fA h0 s.heap.size) h s.heap H locs → W p l e ({ frames := 4, cells := 0, slots := 0, locals := 146 } : Room) s m args below meth c H locs 0 0 (MQ below (va_Qv post (mB D cs h0 s.heap.size) (fA h0 s.heap.size)) args s 0 0 (fA h0 s.heap.size)) (F0 m 2 ls [])) (hK13 : ∀ (x1 : Int32) (x2 : Int32) (x3 : Int32) (x4 : Int32) (h : HS) (H : Heap) (locs : List Loc) (ls : Array Slot), K13 (x1, x2, x3, x4, h) → lv_has ls 8 [(0, va_rf (some v0)), (1, .int x1), (2, .int x2), (3, .int x3), (4, .int x4)] → mR D cs (fA h0 s.heap.size) h s.heap H locs → W p l e ({ frames := 4, cells := 0, slots := 0, locals := 146 } : Room) s m args below meth c H locs 0 0 (MQ below (va_Qv post (mB D cs h0 s.heap.size) (fA h0 s.heap.size)) args s 0 0 (fA h0 s.heap.size)) (F0 m 13 ls [])) : ∀ (x1 : Int32) (x2 : Int32) (x3 : Int32) (x4 : Int32) (x6 : Int32) (h : HS) (H : Heap) (locs : List Loc) (ls : Array Slot), wj_Mod_joinWires_170 Z post K2 K13 v0 x1 x2 x3 x4 x6 h → lv_has ls 8 [(0, va_rf (some v0)), (1, .int x1), (2, .int x2), (3, .int x3), (4, .int x4), (6, .int x6)] → mR D cs (fA h0 s.heap.size) h s.heap H locs → W p l e ({ frames := 4, cells := 0, slots := 0, locals := 146 } : Room) s m args below meth c H locs 0 0 (MQ below (va_Qv post (mB D cs h0 s.heap.size) (fA h0 s.heap.size)) args s 0 0 (fA h0 s.heap.size)) (F0 m 170 ls []) := by
  obtain ⟨hx, hb, hr, hml, hown, hW, hlocks, hnm, hK, hZ⟩ := id C
  have hown : s.vm.findClass "NetJoinsModel" = some m.cls := hown
  have hA : ∀ q, s.heap.size ≤ q → fA h0 s.heap.size q := fun _ h => Or.inr h
  intro x1 x2 x3 x4 x6 h H locs ls hw hl hR
  unfold wj_Mod_joinWires_170 at hw
  refine lv_iload hx hb d_Mod_joinWires_170 (lv_at hl 5 rfl) ?_
  refine lv_if_eq (tgt := 192) hx hb d_Mod_joinWires_172 (by decide) (fun c1 => ?_) (fun c1 => ?_)
  · have hw := hw.1 c1
    exact mn_Mod_joinWires_192 C post K2 K13 hK2 hK13 x1 x2 x3 x4 _ _ _ _ hw (lv_sub hl [0, 1, 2, 3, 4] rfl) hR
  · have hw := hw.2 c1
    refine mx_aload_n (r := some v0) hx hb d_Mod_joinWires_175 rfl (lv_at hl 0 rfl) ?_
    refine lv_bipush (v := 16) hx hb d_Mod_joinWires_176 (by decide) ?_
    refine lv_iload_n hx hb d_Mod_joinWires_178 rfl (lv_at hl 3 rfl) ?_
    refine lv_imul hx hb d_Mod_joinWires_179 ?_
    refine lv_iload_n hx hb d_Mod_joinWires_180 rfl (lv_at hl 1 rfl) ?_
    refine lv_iadd hx hb d_Mod_joinWires_181 ?_
    refine lv_bipush (v := 16) hx hb d_Mod_joinWires_182 (by decide) ?_
    refine lv_iload hx hb d_Mod_joinWires_184 (lv_at hl 4 rfl) ?_
    refine lv_imul hx hb d_Mod_joinWires_186 ?_
    refine lv_iload_n hx hb d_Mod_joinWires_187 rfl (lv_at hl 1 rfl) ?_
    refine lv_iadd hx hb d_Mod_joinWires_188 ?_
    obtain ⟨t4, hw⟩ := hw
    refine mx_callv (va_runV (b := v0) (As := [.int (((16 : Int32) * x3) + x1), .int (((16 : Int32) * x4) + x1)]) (rest := []) ⟨hx, hb, hml, hown, hW⟩ (mt_Mod_join l D cs Z _ hw) (mx_cwV hW ok_Mod_join kw_1276 rfl rfl ⟨Nat.le_of_ble_eq_true rfl, Nat.le_of_ble_eq_true rfl⟩) (mx_preV hK hZ hA hR (ci := 8) rfl t4) rfl rfl hl.1 rfl (lv_room (Nat.le_of_ble_eq_true rfl)) d_Mod_joinWires_189 ⟨Nat.le_of_ble_eq_true rfl, Nat.le_of_ble_eq_true rfl⟩) hR hA (fun h3 H locs hw hR => ?_)
    try dsimp only at hw
    exact mn_Mod_joinWires_192 C post K2 K13 hK2 hK13 x1 x2 x3 x4 _ _ _ _ hw (lv_sub hl [0, 1, 2, 3, 4] rfl) hR
set_option maxHeartbeats 4000000 in
set_option maxRecDepth 100000 in
theorem mn_Mod_joinWires_162 {D : va_G} {cs : CS} {Z : Nat → Nat} {h0 : HS} {p : Program} {l : Launch} {e : Env} {s : State} {m : MethodId} {args : Array Value} {below : List Frame} {meth : Method} {c : Code} {v0 : Nat} (C : mC D cs Z h0 y_Mod_joinWires c_Mod_joinWires 8 none p s m args meth c) (post : HS → Prop) (K2 : Int32 × Int32 × Int32 × HS → Prop) (K13 : Int32 × Int32 × Int32 × Int32 × HS → Prop) (K70 : Int32 × Int32 × Int32 × Int32 × Int32 × Int32 × Int32 × HS → Prop) (hK2 : ∀ (x1 : Int32) (x2 : Int32) (x3 : Int32) (h : HS) (H : Heap) (locs : List Loc) (ls : Array Slot), K2 (x1, x2, x3, h) → lv_has ls 8 [(0, va_rf (some v0)), (1, .int x1), (2, .int x2), (3, .int x3)] → mR D cs (fA h0 s.heap.size) h s.heap H locs → W p l e ({ frames := 4, cells := 0, slots := 0, locals := 146 } : Room) s m args below meth c H locs 0 0 (MQ below (va_Qv post (mB D cs h0 s.heap.size) (fA h0 s.heap.size)) args s 0 0 (fA h0 s.heap.size)) (F0 m 2 ls [])) (hK13 : ∀ (x1 : Int32) (x2 : Int32) (x3 : Int32) (x4 : Int32) (h : HS) (H : Heap) (locs : List Loc) (ls : Array Slot), K13 (x1, x2, x3, x4, h) → lv_has ls 8 [(0, va_rf (some v0)), (1, .int x1), (2, .int x2), (3, .int x3), (4, .int x4)] → mR D cs (fA h0 s.heap.size) h s.heap H locs → W p l e ({ frames := 4, cells := 0, slots := 0, locals := 146 } : Room) s m args below meth c H locs 0 0 (MQ below (va_Qv post (mB D cs h0 s.heap.size) (fA h0 s.heap.size)) args s 0 0 (fA h0 s.heap.size)) (F0 m 13 ls [])) (hK70 : ∀ (x1 : Int32) (x2 : Int32) (x3 : Int32) (x4 : Int32) (x5 : Int32) (x6 : Int32) (x7 : Int32) (h : HS) (H : Heap) (locs : List Loc) (ls : Array Slot), K70 (x1, x2, x3, x4, x5, x6, x7, h) → lv_has ls 8 [(0, va_rf (some v0)), (1, .int x1), (2, .int x2), (3, .int x3), (4, .int x4), (5, .int x5), (6, .int x6), (7, .int x7)] → mR D cs (fA h0 s.heap.size) h s.heap H locs → W p l e ({ frames := 4, cells := 0, slots := 0, locals := 146 } : Room) s m args below meth c H locs 0 0 (MQ below (va_Qv post (mB D cs h0 s.heap.size) (fA h0 s.heap.size)) args s 0 0 (fA h0 s.heap.size)) (F0 m 70 ls [])) : ∀ (x1 : Int32) (x2 : Int32) (x3 : Int32) (x4 : Int32) (x5 : Int32) (x7 : Int32) (s0 : Int32) (h : HS) (H : Heap) (locs : List Loc) (ls : Array Slot), wj_Mod_joinWires_162 Z post K2 K13 K70 v0 x1 x2 x3 x4 x5 x7 s0 h → lv_has ls 8 [(0, va_rf (some v0)), (1, .int x1), (2, .int x2), (3, .int x3), (4, .int x4), (5, .int x5), (7, .int x7)] → mR D cs (fA h0 s.heap.size) h s.heap H locs → W p l e ({ frames := 4, cells := 0, slots := 0, locals := 146 } : Room) s m args below meth c H locs 0 0 (MQ below (va_Qv post (mB D cs h0 s.heap.size) (fA h0 s.heap.size)) args s 0 0 (fA h0 s.heap.size)) (F0 m 162 ls [.int s0]) := by
  obtain ⟨hx, hb, hr, hml, hown, hW, hlocks, hnm, hK, hZ⟩ := id C
  have hown : s.vm.findClass "NetJoinsModel" = some m.cls := hown
  have hA : ∀ q, s.heap.size ≤ q → fA h0 s.heap.size q := fun _ h => Or.inr h
  intro x1 x2 x3 x4 x5 x7 s0 h H locs ls hw hl hR
  unfold wj_Mod_joinWires_162 at hw
  refine lv_istore (i := 6) (lv' := [(6, .int s0), (0, va_rf (some v0)), (1, .int x1), (2, .int x2), (3, .int x3), (4, .int x4), (5, .int x5), (7, .int x7)]) hx hb d_Mod_joinWires_162 hl (by decide) rfl (fun ls hl => ?_)
  obtain ⟨y1, ey1⟩ : ∃ y : Int32, y = x7 + (1 : Int32) := ⟨_, rfl⟩
  have hw := hw y1 ey1
  refine lv_iinc (v := y1) (lv' := [(7, .int y1), (6, .int s0), (0, va_rf (some v0)), (1, .int x1), (2, .int x2), (3, .int x3), (4, .int x4), (5, .int x5)]) hx hb d_Mod_joinWires_164 hl (k := 7) rfl (by rw [ey1]; rfl) (by decide) rfl (fun ls hl => ?_)
  refine lv_goto (tgt := 70) hx hb d_Mod_joinWires_167 (by decide) ?_
  exact hK70 x1 x2 x3 x4 x5 s0 y1 _ _ _ _ hw (lv_sub hl [2, 3, 4, 5, 6, 7, 1, 0] rfl) hR
set_option maxHeartbeats 4000000 in
set_option maxRecDepth 100000 in
theorem mn_Mod_joinWires_161 {D : va_G} {cs : CS} {Z : Nat → Nat} {h0 : HS} {p : Program} {l : Launch} {e : Env} {s : State} {m : MethodId} {args : Array Value} {below : List Frame} {meth : Method} {c : Code} {v0 : Nat} (C : mC D cs Z h0 y_Mod_joinWires c_Mod_joinWires 8 none p s m args meth c) (post : HS → Prop) (K2 : Int32 × Int32 × Int32 × HS → Prop) (K13 : Int32 × Int32 × Int32 × Int32 × HS → Prop) (K70 : Int32 × Int32 × Int32 × Int32 × Int32 × Int32 × Int32 × HS → Prop) (hK2 : ∀ (x1 : Int32) (x2 : Int32) (x3 : Int32) (h : HS) (H : Heap) (locs : List Loc) (ls : Array Slot), K2 (x1, x2, x3, h) → lv_has ls 8 [(0, va_rf (some v0)), (1, .int x1), (2, .int x2), (3, .int x3)] → mR D cs (fA h0 s.heap.size) h s.heap H locs → W p l e ({ frames := 4, cells := 0, slots := 0, locals := 146 } : Room) s m args below meth c H locs 0 0 (MQ below (va_Qv post (mB D cs h0 s.heap.size) (fA h0 s.heap.size)) args s 0 0 (fA h0 s.heap.size)) (F0 m 2 ls [])) (hK13 : ∀ (x1 : Int32) (x2 : Int32) (x3 : Int32) (x4 : Int32) (h : HS) (H : Heap) (locs : List Loc) (ls : Array Slot), K13 (x1, x2, x3, x4, h) → lv_has ls 8 [(0, va_rf (some v0)), (1, .int x1), (2, .int x2), (3, .int x3), (4, .int x4)] → mR D cs (fA h0 s.heap.size) h s.heap H locs → W p l e ({ frames := 4, cells := 0, slots := 0, locals := 146 } : Room) s m args below meth c H locs 0 0 (MQ below (va_Qv post (mB D cs h0 s.heap.size) (fA h0 s.heap.size)) args s 0 0 (fA h0 s.heap.size)) (F0 m 13 ls [])) (hK70 : ∀ (x1 : Int32) (x2 : Int32) (x3 : Int32) (x4 : Int32) (x5 : Int32) (x6 : Int32) (x7 : Int32) (h : HS) (H : Heap) (locs : List Loc) (ls : Array Slot), K70 (x1, x2, x3, x4, x5, x6, x7, h) → lv_has ls 8 [(0, va_rf (some v0)), (1, .int x1), (2, .int x2), (3, .int x3), (4, .int x4), (5, .int x5), (6, .int x6), (7, .int x7)] → mR D cs (fA h0 s.heap.size) h s.heap H locs → W p l e ({ frames := 4, cells := 0, slots := 0, locals := 146 } : Room) s m args below meth c H locs 0 0 (MQ below (va_Qv post (mB D cs h0 s.heap.size) (fA h0 s.heap.size)) args s 0 0 (fA h0 s.heap.size)) (F0 m 70 ls [])) : ∀ (x1 : Int32) (x2 : Int32) (x3 : Int32) (x4 : Int32) (x5 : Int32) (x7 : Int32) (h : HS) (H : Heap) (locs : List Loc) (ls : Array Slot), wj_Mod_joinWires_161 Z post K2 K13 K70 v0 x1 x2 x3 x4 x5 x7 h → lv_has ls 8 [(0, va_rf (some v0)), (1, .int x1), (2, .int x2), (3, .int x3), (4, .int x4), (5, .int x5), (7, .int x7)] → mR D cs (fA h0 s.heap.size) h s.heap H locs → W p l e ({ frames := 4, cells := 0, slots := 0, locals := 146 } : Room) s m args below meth c H locs 0 0 (MQ below (va_Qv post (mB D cs h0 s.heap.size) (fA h0 s.heap.size)) args s 0 0 (fA h0 s.heap.size)) (F0 m 161 ls []) := by
  obtain ⟨hx, hb, hr, hml, hown, hW, hlocks, hnm, hK, hZ⟩ := id C
  have hown : s.vm.findClass "NetJoinsModel" = some m.cls := hown
  have hA : ∀ q, s.heap.size ≤ q → fA h0 s.heap.size q := fun _ h => Or.inr h
  intro x1 x2 x3 x4 x5 x7 h H locs ls hw hl hR
  unfold wj_Mod_joinWires_161 at hw
  refine lv_iconst (v := 0) hx hb d_Mod_joinWires_161 (by decide) ?_
  exact mn_Mod_joinWires_162 C post K2 K13 K70 hK2 hK13 hK70 x1 x2 x3 x4 x5 x7 (0 : Int32) _ _ _ _ hw (lv_sub hl [0, 1, 2, 3, 4, 5, 6] rfl) hR
set_option maxHeartbeats 4000000 in
set_option maxRecDepth 100000 in
theorem mn_Mod_joinWires_70 {D : va_G} {cs : CS} {Z : Nat → Nat} {h0 : HS} {p : Program} {l : Launch} {e : Env} {s : State} {m : MethodId} {args : Array Value} {below : List Frame} {meth : Method} {c : Code} {v0 : Nat} (C : mC D cs Z h0 y_Mod_joinWires c_Mod_joinWires 8 none p s m args meth c) (post : HS → Prop) (K2 : Int32 × Int32 × Int32 × HS → Prop) (K13 : Int32 × Int32 × Int32 × Int32 × HS → Prop) (hK2 : ∀ (x1 : Int32) (x2 : Int32) (x3 : Int32) (h : HS) (H : Heap) (locs : List Loc) (ls : Array Slot), K2 (x1, x2, x3, h) → lv_has ls 8 [(0, va_rf (some v0)), (1, .int x1), (2, .int x2), (3, .int x3)] → mR D cs (fA h0 s.heap.size) h s.heap H locs → W p l e ({ frames := 4, cells := 0, slots := 0, locals := 146 } : Room) s m args below meth c H locs 0 0 (MQ below (va_Qv post (mB D cs h0 s.heap.size) (fA h0 s.heap.size)) args s 0 0 (fA h0 s.heap.size)) (F0 m 2 ls [])) (hK13 : ∀ (x1 : Int32) (x2 : Int32) (x3 : Int32) (x4 : Int32) (h : HS) (H : Heap) (locs : List Loc) (ls : Array Slot), K13 (x1, x2, x3, x4, h) → lv_has ls 8 [(0, va_rf (some v0)), (1, .int x1), (2, .int x2), (3, .int x3), (4, .int x4)] → mR D cs (fA h0 s.heap.size) h s.heap H locs → W p l e ({ frames := 4, cells := 0, slots := 0, locals := 146 } : Room) s m args below meth c H locs 0 0 (MQ below (va_Qv post (mB D cs h0 s.heap.size) (fA h0 s.heap.size)) args s 0 0 (fA h0 s.heap.size)) (F0 m 13 ls [])) : ∀ (n : Nat) (x1 : Int32) (x2 : Int32) (x3 : Int32) (x4 : Int32) (x5 : Int32) (x6 : Int32) (x7 : Int32) (h : HS) (H : Heap) (locs : List Loc) (ls : Array Slot), lpF (wb_Mod_joinWires_70 Z post K2 K13 v0) n (x1, x2, x3, x4, x5, x6, x7, h) → lv_has ls 8 [(0, va_rf (some v0)), (1, .int x1), (2, .int x2), (3, .int x3), (4, .int x4), (5, .int x5), (6, .int x6), (7, .int x7)] → mR D cs (fA h0 s.heap.size) h s.heap H locs → W p l e ({ frames := 4, cells := 0, slots := 0, locals := 146 } : Room) s m args below meth c H locs 0 0 (MQ below (va_Qv post (mB D cs h0 s.heap.size) (fA h0 s.heap.size)) args s 0 0 (fA h0 s.heap.size)) (F0 m 70 ls []) := by
  obtain ⟨hx, hb, hr, hml, hown, hW, hlocks, hnm, hK, hZ⟩ := id C
  have hown : s.vm.findClass "NetJoinsModel" = some m.cls := hown
  have hA : ∀ q, s.heap.size ≤ q → fA h0 s.heap.size q := fun _ h => Or.inr h
  intro n
  induction n with
  | zero => intro x1 x2 x3 x4 x5 x6 x7 h H locs ls hw; exact hw.elim
  | succ n ih =>
    intro x1 x2 x3 x4 x5 x6 x7 h H locs ls hw hl hR
    have hw : wb_Mod_joinWires_70 Z post K2 K13 v0 (lpF (wb_Mod_joinWires_70 Z post K2 K13 v0) n) (x1, x2, x3, x4, x5, x6, x7, h) := hw
    unfold wb_Mod_joinWires_70 at hw
    dsimp only at hw
    refine lv_iload hx hb d_Mod_joinWires_70 (lv_at hl 7 rfl) ?_
    refine mx_aload_n (r := some v0) hx hb d_Mod_joinWires_72 rfl (lv_at hl 0 rfl) ?_
    obtain ⟨t1, hw⟩ := hw
    refine mx_get (ci := 8) (C := "NetJoinsModel") (T := F_Mod) (N := 33) hx hb hW hown hK.1 hR (a := v0) rfl t1 rfl i_Mod 8 0 (by decide) rfl kw_1143 (fun _ h9 => h9) d_Mod_joinWires_73 ?_
    refine lv_icmp_ge (tgt := 170) hx hb d_Mod_joinWires_76 (by decide) (fun c2 => ?_) (fun c2 => ?_)
    · have hw := hw.1 c2
      exact mn_Mod_joinWires_170 C post K2 K13 hK2 hK13 x1 x2 x3 x4 x6 _ _ _ _ hw (lv_sub hl [0, 1, 2, 3, 4, 6] rfl) hR
    · have hw := hw.2 c2
      refine lv_iload hx hb d_Mod_joinWires_79 (lv_at hl 5 rfl) ?_
      refine lv_if_eq (tgt := 170) hx hb d_Mod_joinWires_81 (by decide) (fun c3 => ?_) (fun c3 => ?_)
      · have hw := hw.1 c3
        exact mn_Mod_joinWires_170 C post K2 K13 hK2 hK13 x1 x2 x3 x4 x6 _ _ _ _ hw (lv_sub hl [0, 1, 2, 3, 4, 6] rfl) hR
      · have hw := hw.2 c3
        refine lv_iload hx hb d_Mod_joinWires_84 (lv_at hl 6 rfl) ?_
        refine lv_if_ne (tgt := 170) hx hb d_Mod_joinWires_86 (by decide) (fun c4 => ?_) (fun c4 => ?_)
        · have hw := hw.1 c4
          exact mn_Mod_joinWires_170 C post K2 K13 hK2 hK13 x1 x2 x3 x4 x6 _ _ _ _ hw (lv_sub hl [0, 1, 2, 3, 4, 6] rfl) hR
        · have hw := hw.2 c4
          refine mx_aload_n (r := some v0) hx hb d_Mod_joinWires_89 rfl (lv_at hl 0 rfl) ?_
          obtain ⟨t5, hw⟩ := hw
          refine mx_get (ci := 8) (C := "NetJoinsModel") (T := F_Mod) (N := 33) hx hb hW hown hK.1 hR (a := v0) rfl t5 rfl i_Mod 9 2 (by decide) rfl kw_1144 (fun _ h9 => h9) d_Mod_joinWires_90 ?_
          refine lv_iload hx hb d_Mod_joinWires_93 (lv_at hl 7 rfl) ?_
          obtain ⟨a6, ea6, t7, t7i, hw⟩ := hw
          refine mx_iald hx hb hK.1 hR (a := a6) ea6 t7 t7i d_Mod_joinWires_95 ?_
          refine lv_iload_n hx hb d_Mod_joinWires_96 rfl (lv_at hl 2 rfl) ?_
          refine lv_icmp_ne (tgt := 161) hx hb d_Mod_joinWires_97 (by decide) (fun c8 => ?_) (fun c8 => ?_)
          · have hw := hw.1 c8
            exact mn_Mod_joinWires_161 C post K2 K13 (lpF (wb_Mod_joinWires_70 Z post K2 K13 v0) n) hK2 hK13 ih x1 x2 x3 x4 x5 x7 _ _ _ _ hw (lv_sub hl [0, 1, 2, 3, 4, 5, 7] rfl) hR
          · have hw := hw.2 c8
            refine mx_aload_n (r := some v0) hx hb d_Mod_joinWires_100 rfl (lv_at hl 0 rfl) ?_
            refine lv_iload_n hx hb d_Mod_joinWires_101 rfl (lv_at hl 3 rfl) ?_
            refine mx_aload_n (r := some v0) hx hb d_Mod_joinWires_102 rfl (lv_at hl 0 rfl) ?_
            obtain ⟨t9, hw⟩ := hw
            refine mx_get (ci := 8) (C := "NetJoinsModel") (T := F_Mod) (N := 33) hx hb hW hown hK.1 hR (a := v0) rfl t9 rfl i_Mod 10 2 (by decide) rfl kw_1145 (fun _ h9 => h9) d_Mod_joinWires_103 ?_
            refine lv_iconst (v := 2) hx hb d_Mod_joinWires_106 (by decide) ?_
            refine lv_iload hx hb d_Mod_joinWires_107 (lv_at hl 7 rfl) ?_
            refine lv_imul hx hb d_Mod_joinWires_109 ?_
            obtain ⟨a10, ea10, t11, t11i, hw⟩ := hw
            refine mx_lald hx hb hK.1 hR (a := a10) ea10 t11 t11i d_Mod_joinWires_110 ?_
            refine mx_aload_n (r := some v0) hx hb d_Mod_joinWires_111 rfl (lv_at hl 0 rfl) ?_
            obtain ⟨t12, hw⟩ := hw
            refine mx_get (ci := 8) (C := "NetJoinsModel") (T := F_Mod) (N := 33) hx hb hW hown hK.1 hR (a := v0) rfl t12 rfl i_Mod 10 2 (by decide) rfl kw_1145 (fun _ h9 => h9) d_Mod_joinWires_112 ?_
            refine lv_iconst (v := 2) hx hb d_Mod_joinWires_115 (by decide) ?_
            refine lv_iload hx hb d_Mod_joinWires_116 (lv_at hl 7 rfl) ?_
            refine lv_imul hx hb d_Mod_joinWires_118 ?_
            refine lv_iconst (v := 1) hx hb d_Mod_joinWires_119 (by decide) ?_
            refine lv_iadd hx hb d_Mod_joinWires_120 ?_
            obtain ⟨a13, ea13, t14, t14i, hw⟩ := hw
            refine mx_lald hx hb hK.1 hR (a := a13) ea13 t14 t14i d_Mod_joinWires_121 ?_
            obtain ⟨t17, hw⟩ := hw
            refine mx_calli (va_runV (b := v0) (As := [.int x3, .long (gL h a10 ((2 : Int32) * x7).toNatClampNeg), .long (gL h a13 (((2 : Int32) * x7) + (1 : Int32)).toNatClampNeg)]) (rest := []) ⟨hx, hb, hml, hown, hW⟩ (mt_Mod_goesThrough l D cs Z _ hw) (mx_cwV hW ok_Mod_goesThrough kw_1272 rfl rfl ⟨Nat.le_of_ble_eq_true rfl, Nat.le_of_ble_eq_true rfl⟩) (mx_preV hK hZ hA hR (ci := 8) rfl t17) rfl rfl hl.1 rfl (lv_room (Nat.le_of_ble_eq_true rfl)) d_Mod_joinWires_122 ⟨Nat.le_of_ble_eq_true rfl, Nat.le_of_ble_eq_true rfl⟩) hR hA (fun r15 h16 H locs hw hR => ?_)
            try dsimp only at hw
            refine lv_if_eq (tgt := 161) hx hb d_Mod_joinWires_125 (by decide) (fun c18 => ?_) (fun c18 => ?_)
            · have hw := hw.1 c18
              exact mn_Mod_joinWires_161 C post K2 K13 (lpF (wb_Mod_joinWires_70 Z post K2 K13 v0) n) hK2 hK13 ih x1 x2 x3 x4 x5 x7 _ _ _ _ hw (lv_sub hl [0, 1, 2, 3, 4, 5, 7] rfl) hR
            · have hw := hw.2 c18
              refine mx_aload_n (r := some v0) hx hb d_Mod_joinWires_128 rfl (lv_at hl 0 rfl) ?_
              refine lv_iload hx hb d_Mod_joinWires_129 (lv_at hl 4 rfl) ?_
              refine mx_aload_n (r := some v0) hx hb d_Mod_joinWires_131 rfl (lv_at hl 0 rfl) ?_
              obtain ⟨t19, hw⟩ := hw
              refine mx_get (ci := 8) (C := "NetJoinsModel") (T := F_Mod) (N := 33) hx hb hW hown hK.1 hR (a := v0) rfl t19 rfl i_Mod 10 2 (by decide) rfl kw_1145 (fun _ h9 => h9) d_Mod_joinWires_132 ?_
              refine lv_iconst (v := 2) hx hb d_Mod_joinWires_135 (by decide) ?_
              refine lv_iload hx hb d_Mod_joinWires_136 (lv_at hl 7 rfl) ?_
              refine lv_imul hx hb d_Mod_joinWires_138 ?_
              obtain ⟨a20, ea20, t21, t21i, hw⟩ := hw
              refine mx_lald hx hb hK.1 hR (a := a20) ea20 t21 t21i d_Mod_joinWires_139 ?_
              refine mx_aload_n (r := some v0) hx hb d_Mod_joinWires_140 rfl (lv_at hl 0 rfl) ?_
              obtain ⟨t22, hw⟩ := hw
              refine mx_get (ci := 8) (C := "NetJoinsModel") (T := F_Mod) (N := 33) hx hb hW hown hK.1 hR (a := v0) rfl t22 rfl i_Mod 10 2 (by decide) rfl kw_1145 (fun _ h9 => h9) d_Mod_joinWires_141 ?_
              refine lv_iconst (v := 2) hx hb d_Mod_joinWires_144 (by decide) ?_
              refine lv_iload hx hb d_Mod_joinWires_145 (lv_at hl 7 rfl) ?_
              refine lv_imul hx hb d_Mod_joinWires_147 ?_
              refine lv_iconst (v := 1) hx hb d_Mod_joinWires_148 (by decide) ?_
              refine lv_iadd hx hb d_Mod_joinWires_149 ?_
              obtain ⟨a23, ea23, t24, t24i, hw⟩ := hw
              refine mx_lald hx hb hK.1 hR (a := a23) ea23 t24 t24i d_Mod_joinWires_150 ?_
              obtain ⟨t27, hw⟩ := hw
              refine mx_calli (va_runV (b := v0) (As := [.int x4, .long (gL h16 a20 ((2 : Int32) * x7).toNatClampNeg), .long (gL h16 a23 (((2 : Int32) * x7) + (1 : Int32)).toNatClampNeg)]) (rest := []) ⟨hx, hb, hml, hown, hW⟩ (mt_Mod_goesThrough l D cs Z _ hw) (mx_cwV hW ok_Mod_goesThrough kw_1272 rfl rfl ⟨Nat.le_of_ble_eq_true rfl, Nat.le_of_ble_eq_true rfl⟩) (mx_preV hK hZ hA hR (ci := 8) rfl t27) rfl rfl hl.1 rfl (lv_room (Nat.le_of_ble_eq_true rfl)) d_Mod_joinWires_151 ⟨Nat.le_of_ble_eq_true rfl, Nat.le_of_ble_eq_true rfl⟩) hR hA (fun r25 h26 H locs hw hR => ?_)
              try dsimp only at hw
              refine lv_if_eq (tgt := 161) hx hb d_Mod_joinWires_154 (by decide) (fun c28 => ?_) (fun c28 => ?_)
              · have hw := hw.1 c28
                exact mn_Mod_joinWires_161 C post K2 K13 (lpF (wb_Mod_joinWires_70 Z post K2 K13 v0) n) hK2 hK13 ih x1 x2 x3 x4 x5 x7 _ _ _ _ hw (lv_sub hl [0, 1, 2, 3, 4, 5, 7] rfl) hR
              · have hw := hw.2 c28
                refine lv_iconst (v := 1) hx hb d_Mod_joinWires_157 (by decide) ?_
                refine lv_goto (tgt := 162) hx hb d_Mod_joinWires_158 (by decide) ?_
                exact mn_Mod_joinWires_162 C post K2 K13 (lpF (wb_Mod_joinWires_70 Z post K2 K13 v0) n) hK2 hK13 ih x1 x2 x3 x4 x5 x7 (1 : Int32) _ _ _ _ hw (lv_sub hl [0, 1, 2, 3, 4, 5, 7] rfl) hR
set_option maxHeartbeats 4000000 in
set_option maxRecDepth 100000 in
theorem mn_Mod_joinWires_65 {D : va_G} {cs : CS} {Z : Nat → Nat} {h0 : HS} {p : Program} {l : Launch} {e : Env} {s : State} {m : MethodId} {args : Array Value} {below : List Frame} {meth : Method} {c : Code} {v0 : Nat} (C : mC D cs Z h0 y_Mod_joinWires c_Mod_joinWires 8 none p s m args meth c) (post : HS → Prop) (K2 : Int32 × Int32 × Int32 × HS → Prop) (K13 : Int32 × Int32 × Int32 × Int32 × HS → Prop) (hK2 : ∀ (x1 : Int32) (x2 : Int32) (x3 : Int32) (h : HS) (H : Heap) (locs : List Loc) (ls : Array Slot), K2 (x1, x2, x3, h) → lv_has ls 8 [(0, va_rf (some v0)), (1, .int x1), (2, .int x2), (3, .int x3)] → mR D cs (fA h0 s.heap.size) h s.heap H locs → W p l e ({ frames := 4, cells := 0, slots := 0, locals := 146 } : Room) s m args below meth c H locs 0 0 (MQ below (va_Qv post (mB D cs h0 s.heap.size) (fA h0 s.heap.size)) args s 0 0 (fA h0 s.heap.size)) (F0 m 2 ls [])) (hK13 : ∀ (x1 : Int32) (x2 : Int32) (x3 : Int32) (x4 : Int32) (h : HS) (H : Heap) (locs : List Loc) (ls : Array Slot), K13 (x1, x2, x3, x4, h) → lv_has ls 8 [(0, va_rf (some v0)), (1, .int x1), (2, .int x2), (3, .int x3), (4, .int x4)] → mR D cs (fA h0 s.heap.size) h s.heap H locs → W p l e ({ frames := 4, cells := 0, slots := 0, locals := 146 } : Room) s m args below meth c H locs 0 0 (MQ below (va_Qv post (mB D cs h0 s.heap.size) (fA h0 s.heap.size)) args s 0 0 (fA h0 s.heap.size)) (F0 m 13 ls [])) : ∀ (x1 : Int32) (x2 : Int32) (x3 : Int32) (x4 : Int32) (x5 : Int32) (s0 : Int32) (h : HS) (H : Heap) (locs : List Loc) (ls : Array Slot), wj_Mod_joinWires_65 Z post K2 K13 v0 x1 x2 x3 x4 x5 s0 h → lv_has ls 8 [(0, va_rf (some v0)), (1, .int x1), (2, .int x2), (3, .int x3), (4, .int x4), (5, .int x5)] → mR D cs (fA h0 s.heap.size) h s.heap H locs → W p l e ({ frames := 4, cells := 0, slots := 0, locals := 146 } : Room) s m args below meth c H locs 0 0 (MQ below (va_Qv post (mB D cs h0 s.heap.size) (fA h0 s.heap.size)) args s 0 0 (fA h0 s.heap.size)) (F0 m 65 ls [.int s0]) := by
  obtain ⟨hx, hb, hr, hml, hown, hW, hlocks, hnm, hK, hZ⟩ := id C
  have hown : s.vm.findClass "NetJoinsModel" = some m.cls := hown
  have hA : ∀ q, s.heap.size ≤ q → fA h0 s.heap.size q := fun _ h => Or.inr h
  intro x1 x2 x3 x4 x5 s0 h H locs ls hw hl hR
  unfold wj_Mod_joinWires_65 at hw
  refine lv_istore (i := 6) (lv' := [(6, .int s0), (0, va_rf (some v0)), (1, .int x1), (2, .int x2), (3, .int x3), (4, .int x4), (5, .int x5)]) hx hb d_Mod_joinWires_65 hl (by decide) rfl (fun ls hl => ?_)
  refine lv_iconst (v := 0) hx hb d_Mod_joinWires_67 (by decide) ?_
  refine lv_istore (i := 7) (lv' := [(7, .int (0 : Int32)), (6, .int s0), (0, va_rf (some v0)), (1, .int x1), (2, .int x2), (3, .int x3), (4, .int x4), (5, .int x5)]) hx hb d_Mod_joinWires_68 hl (by decide) rfl (fun ls hl => ?_)
  obtain ⟨n9, hw⟩ := hw
  exact mn_Mod_joinWires_70 C post K2 K13 hK2 hK13 n9 x1 x2 x3 x4 x5 s0 (0 : Int32) _ _ _ _ hw (lv_sub hl [2, 3, 4, 5, 6, 7, 1, 0] rfl) hR
set_option maxHeartbeats 4000000 in
set_option maxRecDepth 100000 in
theorem mn_Mod_joinWires_64 {D : va_G} {cs : CS} {Z : Nat → Nat} {h0 : HS} {p : Program} {l : Launch} {e : Env} {s : State} {m : MethodId} {args : Array Value} {below : List Frame} {meth : Method} {c : Code} {v0 : Nat} (C : mC D cs Z h0 y_Mod_joinWires c_Mod_joinWires 8 none p s m args meth c) (post : HS → Prop) (K2 : Int32 × Int32 × Int32 × HS → Prop) (K13 : Int32 × Int32 × Int32 × Int32 × HS → Prop) (hK2 : ∀ (x1 : Int32) (x2 : Int32) (x3 : Int32) (h : HS) (H : Heap) (locs : List Loc) (ls : Array Slot), K2 (x1, x2, x3, h) → lv_has ls 8 [(0, va_rf (some v0)), (1, .int x1), (2, .int x2), (3, .int x3)] → mR D cs (fA h0 s.heap.size) h s.heap H locs → W p l e ({ frames := 4, cells := 0, slots := 0, locals := 146 } : Room) s m args below meth c H locs 0 0 (MQ below (va_Qv post (mB D cs h0 s.heap.size) (fA h0 s.heap.size)) args s 0 0 (fA h0 s.heap.size)) (F0 m 2 ls [])) (hK13 : ∀ (x1 : Int32) (x2 : Int32) (x3 : Int32) (x4 : Int32) (h : HS) (H : Heap) (locs : List Loc) (ls : Array Slot), K13 (x1, x2, x3, x4, h) → lv_has ls 8 [(0, va_rf (some v0)), (1, .int x1), (2, .int x2), (3, .int x3), (4, .int x4)] → mR D cs (fA h0 s.heap.size) h s.heap H locs → W p l e ({ frames := 4, cells := 0, slots := 0, locals := 146 } : Room) s m args below meth c H locs 0 0 (MQ below (va_Qv post (mB D cs h0 s.heap.size) (fA h0 s.heap.size)) args s 0 0 (fA h0 s.heap.size)) (F0 m 13 ls [])) : ∀ (x1 : Int32) (x2 : Int32) (x3 : Int32) (x4 : Int32) (x5 : Int32) (h : HS) (H : Heap) (locs : List Loc) (ls : Array Slot), wj_Mod_joinWires_64 Z post K2 K13 v0 x1 x2 x3 x4 x5 h → lv_has ls 8 [(0, va_rf (some v0)), (1, .int x1), (2, .int x2), (3, .int x3), (4, .int x4), (5, .int x5)] → mR D cs (fA h0 s.heap.size) h s.heap H locs → W p l e ({ frames := 4, cells := 0, slots := 0, locals := 146 } : Room) s m args below meth c H locs 0 0 (MQ below (va_Qv post (mB D cs h0 s.heap.size) (fA h0 s.heap.size)) args s 0 0 (fA h0 s.heap.size)) (F0 m 64 ls []) := by
  obtain ⟨hx, hb, hr, hml, hown, hW, hlocks, hnm, hK, hZ⟩ := id C
  have hown : s.vm.findClass "NetJoinsModel" = some m.cls := hown
  have hA : ∀ q, s.heap.size ≤ q → fA h0 s.heap.size q := fun _ h => Or.inr h
  intro x1 x2 x3 x4 x5 h H locs ls hw hl hR
  unfold wj_Mod_joinWires_64 at hw
  refine lv_iconst (v := 0) hx hb d_Mod_joinWires_64 (by decide) ?_
  exact mn_Mod_joinWires_65 C post K2 K13 hK2 hK13 x1 x2 x3 x4 x5 (0 : Int32) _ _ _ _ hw (lv_sub hl [0, 1, 2, 3, 4, 5] rfl) hR
set_option maxHeartbeats 4000000 in
set_option maxRecDepth 100000 in
theorem mn_Mod_joinWires_43 {D : va_G} {cs : CS} {Z : Nat → Nat} {h0 : HS} {p : Program} {l : Launch} {e : Env} {s : State} {m : MethodId} {args : Array Value} {below : List Frame} {meth : Method} {c : Code} {v0 : Nat} (C : mC D cs Z h0 y_Mod_joinWires c_Mod_joinWires 8 none p s m args meth c) (post : HS → Prop) (K2 : Int32 × Int32 × Int32 × HS → Prop) (K13 : Int32 × Int32 × Int32 × Int32 × HS → Prop) (hK2 : ∀ (x1 : Int32) (x2 : Int32) (x3 : Int32) (h : HS) (H : Heap) (locs : List Loc) (ls : Array Slot), K2 (x1, x2, x3, h) → lv_has ls 8 [(0, va_rf (some v0)), (1, .int x1), (2, .int x2), (3, .int x3)] → mR D cs (fA h0 s.heap.size) h s.heap H locs → W p l e ({ frames := 4, cells := 0, slots := 0, locals := 146 } : Room) s m args below meth c H locs 0 0 (MQ below (va_Qv post (mB D cs h0 s.heap.size) (fA h0 s.heap.size)) args s 0 0 (fA h0 s.heap.size)) (F0 m 2 ls [])) (hK13 : ∀ (x1 : Int32) (x2 : Int32) (x3 : Int32) (x4 : Int32) (h : HS) (H : Heap) (locs : List Loc) (ls : Array Slot), K13 (x1, x2, x3, x4, h) → lv_has ls 8 [(0, va_rf (some v0)), (1, .int x1), (2, .int x2), (3, .int x3), (4, .int x4)] → mR D cs (fA h0 s.heap.size) h s.heap H locs → W p l e ({ frames := 4, cells := 0, slots := 0, locals := 146 } : Room) s m args below meth c H locs 0 0 (MQ below (va_Qv post (mB D cs h0 s.heap.size) (fA h0 s.heap.size)) args s 0 0 (fA h0 s.heap.size)) (F0 m 13 ls [])) : ∀ (x1 : Int32) (x2 : Int32) (x3 : Int32) (x4 : Int32) (s0 : Int32) (h : HS) (H : Heap) (locs : List Loc) (ls : Array Slot), wj_Mod_joinWires_43 Z post K2 K13 v0 x1 x2 x3 x4 s0 h → lv_has ls 8 [(0, va_rf (some v0)), (1, .int x1), (2, .int x2), (3, .int x3), (4, .int x4)] → mR D cs (fA h0 s.heap.size) h s.heap H locs → W p l e ({ frames := 4, cells := 0, slots := 0, locals := 146 } : Room) s m args below meth c H locs 0 0 (MQ below (va_Qv post (mB D cs h0 s.heap.size) (fA h0 s.heap.size)) args s 0 0 (fA h0 s.heap.size)) (F0 m 43 ls [.int s0]) := by
  obtain ⟨hx, hb, hr, hml, hown, hW, hlocks, hnm, hK, hZ⟩ := id C
  have hown : s.vm.findClass "NetJoinsModel" = some m.cls := hown
  have hA : ∀ q, s.heap.size ≤ q → fA h0 s.heap.size q := fun _ h => Or.inr h
  intro x1 x2 x3 x4 s0 h H locs ls hw hl hR
  unfold wj_Mod_joinWires_43 at hw
  refine lv_istore (i := 5) (lv' := [(5, .int s0), (0, va_rf (some v0)), (1, .int x1), (2, .int x2), (3, .int x3), (4, .int x4)]) hx hb d_Mod_joinWires_43 hl (by decide) rfl (fun ls hl => ?_)
  refine lv_iload hx hb d_Mod_joinWires_45 (lv_at hl 0 rfl) ?_
  refine lv_if_eq (tgt := 64) hx hb d_Mod_joinWires_47 (by decide) (fun c1 => ?_) (fun c1 => ?_)
  · have hw := hw.1 c1
    exact mn_Mod_joinWires_64 C post K2 K13 hK2 hK13 x1 x2 x3 x4 s0 _ _ _ _ hw (lv_sub hl [1, 2, 3, 4, 5, 0] rfl) hR
  · have hw := hw.2 c1
    refine mx_aload_n (r := some v0) hx hb d_Mod_joinWires_50 rfl (lv_at hl 1 rfl) ?_
    refine lv_iload_n hx hb d_Mod_joinWires_51 rfl (lv_at hl 4 rfl) ?_
    refine lv_iload hx hb d_Mod_joinWires_52 (lv_at hl 5 rfl) ?_
    obtain ⟨t4, hw⟩ := hw
    refine mx_calli (va_runV (b := v0) (As := [.int x3, .int x4]) (rest := []) ⟨hx, hb, hml, hown, hW⟩ (mt_Mod_haveEnd l D cs Z _ hw) (mx_cwV hW ok_Mod_haveEnd kw_1268 rfl rfl ⟨Nat.le_of_ble_eq_true rfl, Nat.le_of_ble_eq_true rfl⟩) (mx_preV hK hZ hA hR (ci := 8) rfl t4) rfl rfl hl.1 rfl (lv_room (Nat.le_of_ble_eq_true rfl)) d_Mod_joinWires_54 ⟨Nat.le_of_ble_eq_true rfl, Nat.le_of_ble_eq_true rfl⟩) hR hA (fun r2 h3 H locs hw hR => ?_)
    try dsimp only at hw
    refine lv_if_eq (tgt := 64) hx hb d_Mod_joinWires_57 (by decide) (fun c5 => ?_) (fun c5 => ?_)
    · have hw := hw.1 c5
      exact mn_Mod_joinWires_64 C post K2 K13 hK2 hK13 x1 x2 x3 x4 s0 _ _ _ _ hw (lv_sub hl [1, 2, 3, 4, 5, 0] rfl) hR
    · have hw := hw.2 c5
      refine lv_iconst (v := 1) hx hb d_Mod_joinWires_60 (by decide) ?_
      refine lv_goto (tgt := 65) hx hb d_Mod_joinWires_61 (by decide) ?_
      exact mn_Mod_joinWires_65 C post K2 K13 hK2 hK13 x1 x2 x3 x4 s0 (1 : Int32) _ _ _ _ hw (lv_sub hl [1, 2, 3, 4, 5, 0] rfl) hR
set_option maxHeartbeats 4000000 in
set_option maxRecDepth 100000 in
theorem mn_Mod_joinWires_42 {D : va_G} {cs : CS} {Z : Nat → Nat} {h0 : HS} {p : Program} {l : Launch} {e : Env} {s : State} {m : MethodId} {args : Array Value} {below : List Frame} {meth : Method} {c : Code} {v0 : Nat} (C : mC D cs Z h0 y_Mod_joinWires c_Mod_joinWires 8 none p s m args meth c) (post : HS → Prop) (K2 : Int32 × Int32 × Int32 × HS → Prop) (K13 : Int32 × Int32 × Int32 × Int32 × HS → Prop) (hK2 : ∀ (x1 : Int32) (x2 : Int32) (x3 : Int32) (h : HS) (H : Heap) (locs : List Loc) (ls : Array Slot), K2 (x1, x2, x3, h) → lv_has ls 8 [(0, va_rf (some v0)), (1, .int x1), (2, .int x2), (3, .int x3)] → mR D cs (fA h0 s.heap.size) h s.heap H locs → W p l e ({ frames := 4, cells := 0, slots := 0, locals := 146 } : Room) s m args below meth c H locs 0 0 (MQ below (va_Qv post (mB D cs h0 s.heap.size) (fA h0 s.heap.size)) args s 0 0 (fA h0 s.heap.size)) (F0 m 2 ls [])) (hK13 : ∀ (x1 : Int32) (x2 : Int32) (x3 : Int32) (x4 : Int32) (h : HS) (H : Heap) (locs : List Loc) (ls : Array Slot), K13 (x1, x2, x3, x4, h) → lv_has ls 8 [(0, va_rf (some v0)), (1, .int x1), (2, .int x2), (3, .int x3), (4, .int x4)] → mR D cs (fA h0 s.heap.size) h s.heap H locs → W p l e ({ frames := 4, cells := 0, slots := 0, locals := 146 } : Room) s m args below meth c H locs 0 0 (MQ below (va_Qv post (mB D cs h0 s.heap.size) (fA h0 s.heap.size)) args s 0 0 (fA h0 s.heap.size)) (F0 m 13 ls [])) : ∀ (x1 : Int32) (x2 : Int32) (x3 : Int32) (x4 : Int32) (h : HS) (H : Heap) (locs : List Loc) (ls : Array Slot), wj_Mod_joinWires_42 Z post K2 K13 v0 x1 x2 x3 x4 h → lv_has ls 8 [(0, va_rf (some v0)), (1, .int x1), (2, .int x2), (3, .int x3), (4, .int x4)] → mR D cs (fA h0 s.heap.size) h s.heap H locs → W p l e ({ frames := 4, cells := 0, slots := 0, locals := 146 } : Room) s m args below meth c H locs 0 0 (MQ below (va_Qv post (mB D cs h0 s.heap.size) (fA h0 s.heap.size)) args s 0 0 (fA h0 s.heap.size)) (F0 m 42 ls []) := by
  obtain ⟨hx, hb, hr, hml, hown, hW, hlocks, hnm, hK, hZ⟩ := id C
  have hown : s.vm.findClass "NetJoinsModel" = some m.cls := hown
  have hA : ∀ q, s.heap.size ≤ q → fA h0 s.heap.size q := fun _ h => Or.inr h
  intro x1 x2 x3 x4 h H locs ls hw hl hR
  unfold wj_Mod_joinWires_42 at hw
  refine lv_iconst (v := 0) hx hb d_Mod_joinWires_42 (by decide) ?_
  exact mn_Mod_joinWires_43 C post K2 K13 hK2 hK13 x1 x2 x3 x4 (0 : Int32) _ _ _ _ hw (lv_sub hl [0, 1, 2, 3, 4] rfl) hR
set_option maxHeartbeats 4000000 in
set_option maxRecDepth 100000 in
theorem mn_Mod_joinWires_13 {D : va_G} {cs : CS} {Z : Nat → Nat} {h0 : HS} {p : Program} {l : Launch} {e : Env} {s : State} {m : MethodId} {args : Array Value} {below : List Frame} {meth : Method} {c : Code} {v0 : Nat} (C : mC D cs Z h0 y_Mod_joinWires c_Mod_joinWires 8 none p s m args meth c) (post : HS → Prop) (K2 : Int32 × Int32 × Int32 × HS → Prop) (hK2 : ∀ (x1 : Int32) (x2 : Int32) (x3 : Int32) (h : HS) (H : Heap) (locs : List Loc) (ls : Array Slot), K2 (x1, x2, x3, h) → lv_has ls 8 [(0, va_rf (some v0)), (1, .int x1), (2, .int x2), (3, .int x3)] → mR D cs (fA h0 s.heap.size) h s.heap H locs → W p l e ({ frames := 4, cells := 0, slots := 0, locals := 146 } : Room) s m args below meth c H locs 0 0 (MQ below (va_Qv post (mB D cs h0 s.heap.size) (fA h0 s.heap.size)) args s 0 0 (fA h0 s.heap.size)) (F0 m 2 ls [])) : ∀ (n : Nat) (x1 : Int32) (x2 : Int32) (x3 : Int32) (x4 : Int32) (h : HS) (H : Heap) (locs : List Loc) (ls : Array Slot), lpF (wb_Mod_joinWires_13 Z post K2 v0) n (x1, x2, x3, x4, h) → lv_has ls 8 [(0, va_rf (some v0)), (1, .int x1), (2, .int x2), (3, .int x3), (4, .int x4)] → mR D cs (fA h0 s.heap.size) h s.heap H locs → W p l e ({ frames := 4, cells := 0, slots := 0, locals := 146 } : Room) s m args below meth c H locs 0 0 (MQ below (va_Qv post (mB D cs h0 s.heap.size) (fA h0 s.heap.size)) args s 0 0 (fA h0 s.heap.size)) (F0 m 13 ls []) := by
  obtain ⟨hx, hb, hr, hml, hown, hW, hlocks, hnm, hK, hZ⟩ := id C
  have hown : s.vm.findClass "NetJoinsModel" = some m.cls := hown
  have hA : ∀ q, s.heap.size ≤ q → fA h0 s.heap.size q := fun _ h => Or.inr h
  intro n
  induction n with
  | zero => intro x1 x2 x3 x4 h H locs ls hw; exact hw.elim
  | succ n ih =>
    intro x1 x2 x3 x4 h H locs ls hw hl hR
    have hw : wb_Mod_joinWires_13 Z post K2 v0 (lpF (wb_Mod_joinWires_13 Z post K2 v0) n) (x1, x2, x3, x4, h) := hw
    unfold wb_Mod_joinWires_13 at hw
    dsimp only at hw
    refine lv_iload hx hb d_Mod_joinWires_13 (lv_at hl 4 rfl) ?_
    refine lv_iload_n hx hb d_Mod_joinWires_15 rfl (lv_at hl 3 rfl) ?_
    refine lv_icmp_ge (tgt := 198) hx hb d_Mod_joinWires_16 (by decide) (fun c1 => ?_) (fun c1 => ?_)
    · have hw := hw.1 c1
      obtain ⟨y2, ey2⟩ : ∃ y : Int32, y = x3 + (1 : Int32) := ⟨_, rfl⟩
      have hw := hw y2 ey2
      refine lv_iinc (v := y2) (lv' := [(3, .int y2), (0, va_rf (some v0)), (1, .int x1), (2, .int x2), (4, .int x4)]) hx hb d_Mod_joinWires_198 hl (k := 3) rfl (by rw [ey2]; rfl) (by decide) rfl (fun ls hl => ?_)
      refine lv_goto (tgt := 2) hx hb d_Mod_joinWires_201 (by decide) ?_
      exact hK2 x1 x2 y2 _ _ _ _ hw (lv_sub hl [1, 2, 3, 0] rfl) hR
    · have hw := hw.2 c1
      refine mx_aload_n (r := some v0) hx hb d_Mod_joinWires_19 rfl (lv_at hl 0 rfl) ?_
      refine lv_iload_n hx hb d_Mod_joinWires_20 rfl (lv_at hl 3 rfl) ?_
      refine lv_iload_n hx hb d_Mod_joinWires_21 rfl (lv_at hl 2 rfl) ?_
      obtain ⟨t5, hw⟩ := hw
      refine mx_calli (va_runV (b := v0) (As := [.int x3, .int x2]) (rest := []) ⟨hx, hb, hml, hown, hW⟩ (mt_Mod_isOn l D cs Z _ hw) (mx_cwV hW ok_Mod_isOn kw_1264 rfl rfl ⟨Nat.le_of_ble_eq_true rfl, Nat.le_of_ble_eq_true rfl⟩) (mx_preV hK hZ hA hR (ci := 8) rfl t5) rfl rfl hl.1 rfl (lv_room (Nat.le_of_ble_eq_true rfl)) d_Mod_joinWires_22 ⟨Nat.le_of_ble_eq_true rfl, Nat.le_of_ble_eq_true rfl⟩) hR hA (fun r3 h4 H locs hw hR => ?_)
      try dsimp only at hw
      refine lv_if_eq (tgt := 42) hx hb d_Mod_joinWires_25 (by decide) (fun c6 => ?_) (fun c6 => ?_)
      · have hw := hw.1 c6
        exact mn_Mod_joinWires_42 C post K2 (lpF (wb_Mod_joinWires_13 Z post K2 v0) n) hK2 ih x1 x2 x3 x4 _ _ _ _ hw (lv_sub hl [0, 1, 2, 3, 4] rfl) hR
      · have hw := hw.2 c6
        refine mx_aload_n (r := some v0) hx hb d_Mod_joinWires_28 rfl (lv_at hl 0 rfl) ?_
        refine lv_iload hx hb d_Mod_joinWires_29 (lv_at hl 4 rfl) ?_
        refine lv_iload_n hx hb d_Mod_joinWires_31 rfl (lv_at hl 2 rfl) ?_
        obtain ⟨t9, hw⟩ := hw
        refine mx_calli (va_runV (b := v0) (As := [.int x4, .int x2]) (rest := []) ⟨hx, hb, hml, hown, hW⟩ (mt_Mod_isOn l D cs Z _ hw) (mx_cwV hW ok_Mod_isOn kw_1264 rfl rfl ⟨Nat.le_of_ble_eq_true rfl, Nat.le_of_ble_eq_true rfl⟩) (mx_preV hK hZ hA hR (ci := 8) rfl t9) rfl rfl hl.1 rfl (lv_room (Nat.le_of_ble_eq_true rfl)) d_Mod_joinWires_32 ⟨Nat.le_of_ble_eq_true rfl, Nat.le_of_ble_eq_true rfl⟩) hR hA (fun r7 h8 H locs hw hR => ?_)
        try dsimp only at hw
        refine lv_if_eq (tgt := 42) hx hb d_Mod_joinWires_35 (by decide) (fun c10 => ?_) (fun c10 => ?_)
        · have hw := hw.1 c10
          exact mn_Mod_joinWires_42 C post K2 (lpF (wb_Mod_joinWires_13 Z post K2 v0) n) hK2 ih x1 x2 x3 x4 _ _ _ _ hw (lv_sub hl [0, 1, 2, 3, 4] rfl) hR
        · have hw := hw.2 c10
          refine lv_iconst (v := 1) hx hb d_Mod_joinWires_38 (by decide) ?_
          refine lv_goto (tgt := 43) hx hb d_Mod_joinWires_39 (by decide) ?_
          exact mn_Mod_joinWires_43 C post K2 (lpF (wb_Mod_joinWires_13 Z post K2 v0) n) hK2 ih x1 x2 x3 x4 (1 : Int32) _ _ _ _ hw (lv_sub hl [0, 1, 2, 3, 4] rfl) hR
set_option maxHeartbeats 4000000 in
set_option maxRecDepth 100000 in
theorem mn_Mod_joinWires_2 {D : va_G} {cs : CS} {Z : Nat → Nat} {h0 : HS} {p : Program} {l : Launch} {e : Env} {s : State} {m : MethodId} {args : Array Value} {below : List Frame} {meth : Method} {c : Code} {v0 : Nat} (C : mC D cs Z h0 y_Mod_joinWires c_Mod_joinWires 8 none p s m args meth c) (post : HS → Prop) : ∀ (n : Nat) (x1 : Int32) (x2 : Int32) (x3 : Int32) (h : HS) (H : Heap) (locs : List Loc) (ls : Array Slot), lpF (wb_Mod_joinWires_2 Z post v0) n (x1, x2, x3, h) → lv_has ls 8 [(0, va_rf (some v0)), (1, .int x1), (2, .int x2), (3, .int x3)] → mR D cs (fA h0 s.heap.size) h s.heap H locs → W p l e ({ frames := 4, cells := 0, slots := 0, locals := 146 } : Room) s m args below meth c H locs 0 0 (MQ below (va_Qv post (mB D cs h0 s.heap.size) (fA h0 s.heap.size)) args s 0 0 (fA h0 s.heap.size)) (F0 m 2 ls []) := by
  obtain ⟨hx, hb, hr, hml, hown, hW, hlocks, hnm, hK, hZ⟩ := id C
  have hown : s.vm.findClass "NetJoinsModel" = some m.cls := hown
  have hA : ∀ q, s.heap.size ≤ q → fA h0 s.heap.size q := fun _ h => Or.inr h
  intro n
  induction n with
  | zero => intro x1 x2 x3 h H locs ls hw; exact hw.elim
  | succ n ih =>
    intro x1 x2 x3 h H locs ls hw hl hR
    have hw : wb_Mod_joinWires_2 Z post v0 (lpF (wb_Mod_joinWires_2 Z post v0) n) (x1, x2, x3, h) := hw
    unfold wb_Mod_joinWires_2 at hw
    dsimp only at hw
    refine lv_iload_n hx hb d_Mod_joinWires_2 rfl (lv_at hl 3 rfl) ?_
    refine mx_aload_n (r := some v0) hx hb d_Mod_joinWires_3 rfl (lv_at hl 0 rfl) ?_
    obtain ⟨t1, hw⟩ := hw
    refine mx_get (ci := 8) (C := "NetJoinsModel") (T := F_Mod) (N := 33) hx hb hW hown hK.1 hR (a := v0) rfl t1 rfl i_Mod 4 0 (by decide) rfl kw_1139 (fun _ h9 => h9) d_Mod_joinWires_4 ?_
    refine lv_icmp_ge (tgt := 204) hx hb d_Mod_joinWires_7 (by decide) (fun c2 => ?_) (fun c2 => ?_)
    · have hw := hw.1 c2
      exact mx_vret hx hb hr hlocks hR hw d_Mod_joinWires_204
    · have hw := hw.2 c2
      refine lv_iconst (v := 0) hx hb d_Mod_joinWires_10 (by decide) ?_
      refine lv_istore (i := 4) (lv' := [(4, .int (0 : Int32)), (0, va_rf (some v0)), (1, .int x1), (2, .int x2), (3, .int x3)]) hx hb d_Mod_joinWires_11 hl (by decide) rfl (fun ls hl => ?_)
      obtain ⟨n9, hw⟩ := hw
      exact mn_Mod_joinWires_13 C post (lpF (wb_Mod_joinWires_2 Z post v0) n) ih n9 x1 x2 x3 (0 : Int32) _ _ _ _ hw (lv_sub hl [1, 2, 3, 4, 0] rfl) hR
set_option maxHeartbeats 4000000 in
set_option maxRecDepth 100000 in
theorem mt_Mod_joinWires (l : Launch) (D : va_G) (cs : CS) (Z : Nat → Nat) (sz : Nat) {post : HS → Prop} {h : HS} {v0 : Nat} {x1 : Int32} {x2 : Int32} (hw : wp_Mod_joinWires Z post h v0 x1 x2) : Met l y_Mod_joinWires (Cond.code y_Mod_joinWires c_Mod_joinWires 8 none :: WA) ({ frames := 4, cells := 0, slots := 0, locals := 146 } : Room) (mPc D cs Z h sz [va_rf (some v0), .int x1, .int x2]) (va_Qv post (mB D cs h sz) (fA h sz)) 0 0 (fA h sz) := by
  refine mx_met (fun sz => va_Qv post (mB D cs h sz) (fA h sz)) (by decide) (by simp [lg_sl, mx_rf_cat, cat_i, cat_l]) ?_
  intro p e s m args below meth c C hR ls hl
  have hl : lv_has ls 8 [(0, va_rf (some v0)), (1, .int x1), (2, .int x2)] := hl
  obtain ⟨hx, hb, hr, hml, hown, hW, hlocks, hnm, hK, hZ⟩ := id C
  have hown : s.vm.findClass "NetJoinsModel" = some m.cls := hown
  have hA : ∀ q, s.heap.size ≤ q → fA h s.heap.size q := fun _ h => Or.inr h
  unfold wp_Mod_joinWires at hw
  refine lv_iconst (v := 0) hx hb d_Mod_joinWires_0 (by decide) ?_
  refine lv_istore_n (i := 3) (lv' := [(3, .int (0 : Int32)), (0, va_rf (some v0)), (1, .int x1), (2, .int x2)]) hx hb d_Mod_joinWires_1 rfl hl (by decide) rfl (fun ls hl => ?_)
  obtain ⟨n9, hw⟩ := hw
  exact mn_Mod_joinWires_2 C post n9 x1 x2 (0 : Int32) _ _ _ _ hw (lv_sub hl [1, 2, 3, 0] rfl) hR
set_option maxHeartbeats 4000000 in
set_option maxRecDepth 100000 in
theorem mn_Mod_joinPlace_201 {D : va_G} {cs : CS} {Z : Nat → Nat} {h0 : HS} {p : Program} {l : Launch} {e : Env} {s : State} {m : MethodId} {args : Array Value} {below : List Frame} {meth : Method} {c : Code} {v0 : Nat} (C : mC D cs Z h0 y_Mod_joinPlace c_Mod_joinPlace 9 none p s m args meth c) (post : HS → Prop) (K133 : Int32 × Int32 × Int32 × Int64 × Int64 × Int32 × HS → Prop) (hK133 : ∀ (x1 : Int32) (x2 : Int32) (x3 : Int32) (x4 : Int64) (x6 : Int64) (x8 : Int32) (h : HS) (H : Heap) (locs : List Loc) (ls : Array Slot), K133 (x1, x2, x3, x4, x6, x8, h) → lv_has ls 9 [(0, va_rf (some v0)), (1, .int x1), (2, .int x2), (3, .int x3), (4, .long x4), (6, .long x6), (8, .int x8)] → mR D cs (fA h0 s.heap.size) h s.heap H locs → W p l e ({ frames := 4, cells := 0, slots := 0, locals := 146 } : Room) s m args below meth c H locs 0 0 (MQ below (va_Qv post (mB D cs h0 s.heap.size) (fA h0 s.heap.size)) args s 0 0 (fA h0 s.heap.size)) (F0 m 133 ls [])) : ∀ (x1 : Int32) (x2 : Int32) (x3 : Int32) (x4 : Int64) (x6 : Int64) (x8 : Int32) (h : HS) (H : Heap) (locs : List Loc) (ls : Array Slot), wj_Mod_joinPlace_201 Z post K133 v0 x1 x2 x3 x4 x6 x8 h → lv_has ls 9 [(0, va_rf (some v0)), (1, .int x1), (2, .int x2), (3, .int x3), (4, .long x4), (6, .long x6), (8, .int x8)] → mR D cs (fA h0 s.heap.size) h s.heap H locs → W p l e ({ frames := 4, cells := 0, slots := 0, locals := 146 } : Room) s m args below meth c H locs 0 0 (MQ below (va_Qv post (mB D cs h0 s.heap.size) (fA h0 s.heap.size)) args s 0 0 (fA h0 s.heap.size)) (F0 m 201 ls []) := by
  obtain ⟨hx, hb, hr, hml, hown, hW, hlocks, hnm, hK, hZ⟩ := id C
  have hown : s.vm.findClass "NetJoinsModel" = some m.cls := hown
  have hA : ∀ q, s.heap.size ≤ q → fA h0 s.heap.size q := fun _ h => Or.inr h
  intro x1 x2 x3 x4 x6 x8 h H locs ls hw hl hR
  unfold wj_Mod_joinPlace_201 at hw
  obtain ⟨y1, ey1⟩ : ∃ y : Int32, y = x8 + (1 : Int32) := ⟨_, rfl⟩
  have hw := hw y1 ey1
  refine lv_iinc (v := y1) (lv' := [(8, .int y1), (0, va_rf (some v0)), (1, .int x1), (2, .int x2), (3, .int x3), (4, .long x4), (6, .long x6)]) hx hb d_Mod_joinPlace_201 hl (k := 6) rfl (by rw [ey1]; rfl) (by decide) rfl (fun ls hl => ?_)
  refine lv_goto (tgt := 133) hx hb d_Mod_joinPlace_204 (by decide) ?_
  exact hK133 x1 x2 x3 x4 x6 y1 _ _ _ _ hw (lv_sub hl [1, 2, 3, 4, 5, 6, 0] rfl) hR
set_option maxHeartbeats 4000000 in
set_option maxRecDepth 100000 in
theorem mn_Mod_joinPlace_133 {D : va_G} {cs : CS} {Z : Nat → Nat} {h0 : HS} {p : Program} {l : Launch} {e : Env} {s : State} {m : MethodId} {args : Array Value} {below : List Frame} {meth : Method} {c : Code} {v0 : Nat} (C : mC D cs Z h0 y_Mod_joinPlace c_Mod_joinPlace 9 none p s m args meth c) (post : HS → Prop) : ∀ (n : Nat) (x1 : Int32) (x2 : Int32) (x3 : Int32) (x4 : Int64) (x6 : Int64) (x8 : Int32) (h : HS) (H : Heap) (locs : List Loc) (ls : Array Slot), lpF (wb_Mod_joinPlace_133 Z post v0) n (x1, x2, x3, x4, x6, x8, h) → lv_has ls 9 [(0, va_rf (some v0)), (1, .int x1), (2, .int x2), (3, .int x3), (4, .long x4), (6, .long x6), (8, .int x8)] → mR D cs (fA h0 s.heap.size) h s.heap H locs → W p l e ({ frames := 4, cells := 0, slots := 0, locals := 146 } : Room) s m args below meth c H locs 0 0 (MQ below (va_Qv post (mB D cs h0 s.heap.size) (fA h0 s.heap.size)) args s 0 0 (fA h0 s.heap.size)) (F0 m 133 ls []) := by
  obtain ⟨hx, hb, hr, hml, hown, hW, hlocks, hnm, hK, hZ⟩ := id C
  have hown : s.vm.findClass "NetJoinsModel" = some m.cls := hown
  have hA : ∀ q, s.heap.size ≤ q → fA h0 s.heap.size q := fun _ h => Or.inr h
  intro n
  induction n with
  | zero => intro x1 x2 x3 x4 x6 x8 h H locs ls hw; exact hw.elim
  | succ n ih =>
    intro x1 x2 x3 x4 x6 x8 h H locs ls hw hl hR
    have hw : wb_Mod_joinPlace_133 Z post v0 (lpF (wb_Mod_joinPlace_133 Z post v0) n) (x1, x2, x3, x4, x6, x8, h) := hw
    unfold wb_Mod_joinPlace_133 at hw
    dsimp only at hw
    refine lv_iload hx hb d_Mod_joinPlace_133 (lv_at hl 6 rfl) ?_
    refine mx_aload_n (r := some v0) hx hb d_Mod_joinPlace_135 rfl (lv_at hl 0 rfl) ?_
    obtain ⟨t1, hw⟩ := hw
    refine mx_get (ci := 8) (C := "NetJoinsModel") (T := F_Mod) (N := 33) hx hb hW hown hK.1 hR (a := v0) rfl t1 rfl i_Mod 15 0 (by decide) rfl kw_1150 (fun _ h9 => h9) d_Mod_joinPlace_136 ?_
    refine lv_icmp_ge (tgt := 207) hx hb d_Mod_joinPlace_139 (by decide) (fun c2 => ?_) (fun c2 => ?_)
    · have hw := hw.1 c2
      exact mx_vret hx hb hr hlocks hR hw d_Mod_joinPlace_207
    · have hw := hw.2 c2
      refine mx_aload_n (r := some v0) hx hb d_Mod_joinPlace_142 rfl (lv_at hl 0 rfl) ?_
      obtain ⟨t3, hw⟩ := hw
      refine mx_get (ci := 8) (C := "NetJoinsModel") (T := F_Mod) (N := 33) hx hb hW hown hK.1 hR (a := v0) rfl t3 rfl i_Mod 16 2 (by decide) rfl kw_1151 (fun _ h9 => h9) d_Mod_joinPlace_143 ?_
      refine lv_iload hx hb d_Mod_joinPlace_146 (lv_at hl 6 rfl) ?_
      obtain ⟨a4, ea4, t5, t5i, hw⟩ := hw
      refine mx_iald hx hb hK.1 hR (a := a4) ea4 t5 t5i d_Mod_joinPlace_148 ?_
      refine lv_iload_n hx hb d_Mod_joinPlace_149 rfl (lv_at hl 3 rfl) ?_
      refine lv_icmp_ne (tgt := 201) hx hb d_Mod_joinPlace_150 (by decide) (fun c6 => ?_) (fun c6 => ?_)
      · have hw := hw.1 c6
        exact mn_Mod_joinPlace_201 C post (lpF (wb_Mod_joinPlace_133 Z post v0) n) ih x1 x2 x3 x4 x6 x8 _ _ _ _ hw (lv_sub hl [0, 1, 2, 3, 4, 5, 6] rfl) hR
      · have hw := hw.2 c6
        refine mx_aload_n (r := some v0) hx hb d_Mod_joinPlace_153 rfl (lv_at hl 0 rfl) ?_
        obtain ⟨t7, hw⟩ := hw
        refine mx_get (ci := 8) (C := "NetJoinsModel") (T := F_Mod) (N := 33) hx hb hW hown hK.1 hR (a := v0) rfl t7 rfl i_Mod 18 2 (by decide) rfl kw_1153 (fun _ h9 => h9) d_Mod_joinPlace_154 ?_
        refine lv_iconst (v := 2) hx hb d_Mod_joinPlace_157 (by decide) ?_
        refine lv_iload hx hb d_Mod_joinPlace_158 (lv_at hl 6 rfl) ?_
        refine lv_imul hx hb d_Mod_joinPlace_160 ?_
        obtain ⟨a8, ea8, t9, t9i, hw⟩ := hw
        refine mx_lald hx hb hK.1 hR (a := a8) ea8 t9 t9i d_Mod_joinPlace_161 ?_
        refine lv_lload hx hb d_Mod_joinPlace_162 (lv_at hl 4 rfl) ?_
        refine W.lcmp hx hb d_Mod_joinPlace_164 ?_
        refine lv_if_ne (tgt := 201) hx hb d_Mod_joinPlace_165 (by decide) (fun c10 => ?_) (fun c10 => ?_)
        · have hw := hw.1 c10
          exact mn_Mod_joinPlace_201 C post (lpF (wb_Mod_joinPlace_133 Z post v0) n) ih x1 x2 x3 x4 x6 x8 _ _ _ _ hw (lv_sub hl [0, 1, 2, 3, 4, 5, 6] rfl) hR
        · have hw := hw.2 c10
          refine mx_aload_n (r := some v0) hx hb d_Mod_joinPlace_168 rfl (lv_at hl 0 rfl) ?_
          obtain ⟨t11, hw⟩ := hw
          refine mx_get (ci := 8) (C := "NetJoinsModel") (T := F_Mod) (N := 33) hx hb hW hown hK.1 hR (a := v0) rfl t11 rfl i_Mod 18 2 (by decide) rfl kw_1153 (fun _ h9 => h9) d_Mod_joinPlace_169 ?_
          refine lv_iconst (v := 2) hx hb d_Mod_joinPlace_172 (by decide) ?_
          refine lv_iload hx hb d_Mod_joinPlace_173 (lv_at hl 6 rfl) ?_
          refine lv_imul hx hb d_Mod_joinPlace_175 ?_
          refine lv_iconst (v := 1) hx hb d_Mod_joinPlace_176 (by decide) ?_
          refine lv_iadd hx hb d_Mod_joinPlace_177 ?_
          obtain ⟨a12, ea12, t13, t13i, hw⟩ := hw
          refine mx_lald hx hb hK.1 hR (a := a12) ea12 t13 t13i d_Mod_joinPlace_178 ?_
          refine lv_lload hx hb d_Mod_joinPlace_179 (lv_at hl 5 rfl) ?_
          refine W.lcmp hx hb d_Mod_joinPlace_181 ?_
          refine lv_if_ne (tgt := 201) hx hb d_Mod_joinPlace_182 (by decide) (fun c14 => ?_) (fun c14 => ?_)
          · have hw := hw.1 c14
            exact mn_Mod_joinPlace_201 C post (lpF (wb_Mod_joinPlace_133 Z post v0) n) ih x1 x2 x3 x4 x6 x8 _ _ _ _ hw (lv_sub hl [0, 1, 2, 3, 4, 5, 6] rfl) hR
          · have hw := hw.2 c14
            refine mx_aload_n (r := some v0) hx hb d_Mod_joinPlace_185 rfl (lv_at hl 0 rfl) ?_
            refine lv_iload_n hx hb d_Mod_joinPlace_186 rfl (lv_at hl 1 rfl) ?_
            refine lv_sipush (v := 2560) hx hb d_Mod_joinPlace_187 (by decide) ?_
            refine lv_bipush (v := 16) hx hb d_Mod_joinPlace_190 (by decide) ?_
            refine lv_iload hx hb d_Mod_joinPlace_192 (lv_at hl 6 rfl) ?_
            refine lv_imul hx hb d_Mod_joinPlace_194 ?_
            refine lv_iadd hx hb d_Mod_joinPlace_195 ?_
            refine lv_iload_n hx hb d_Mod_joinPlace_196 rfl (lv_at hl 2 rfl) ?_
            refine lv_iadd hx hb d_Mod_joinPlace_197 ?_
            obtain ⟨t17, hw⟩ := hw
            refine mx_callv (va_runV (b := v0) (As := [.int x1, .int (((2560 : Int32) + ((16 : Int32) * x8)) + x2)]) (rest := []) ⟨hx, hb, hml, hown, hW⟩ (mt_Mod_join l D cs Z _ hw) (mx_cwV hW ok_Mod_join kw_1276 rfl rfl ⟨Nat.le_of_ble_eq_true rfl, Nat.le_of_ble_eq_true rfl⟩) (mx_preV hK hZ hA hR (ci := 8) rfl t17) rfl rfl hl.1 rfl (lv_room (Nat.le_of_ble_eq_true rfl)) d_Mod_joinPlace_198 ⟨Nat.le_of_ble_eq_true rfl, Nat.le_of_ble_eq_true rfl⟩) hR hA (fun h16 H locs hw hR => ?_)
            try dsimp only at hw
            exact mn_Mod_joinPlace_201 C post (lpF (wb_Mod_joinPlace_133 Z post v0) n) ih x1 x2 x3 x4 x6 x8 _ _ _ _ hw (lv_sub hl [0, 1, 2, 3, 4, 5, 6] rfl) hR
set_option maxHeartbeats 4000000 in
set_option maxRecDepth 100000 in
theorem mn_Mod_joinPlace_124 {D : va_G} {cs : CS} {Z : Nat → Nat} {h0 : HS} {p : Program} {l : Launch} {e : Env} {s : State} {m : MethodId} {args : Array Value} {below : List Frame} {meth : Method} {c : Code} {v0 : Nat} (C : mC D cs Z h0 y_Mod_joinPlace c_Mod_joinPlace 9 none p s m args meth c) (post : HS → Prop) (K56 : Int32 × Int32 × Int32 × Int64 × Int64 × Int32 × HS → Prop) (hK56 : ∀ (x1 : Int32) (x2 : Int32) (x3 : Int32) (x4 : Int64) (x6 : Int64) (x8 : Int32) (h : HS) (H : Heap) (locs : List Loc) (ls : Array Slot), K56 (x1, x2, x3, x4, x6, x8, h) → lv_has ls 9 [(0, va_rf (some v0)), (1, .int x1), (2, .int x2), (3, .int x3), (4, .long x4), (6, .long x6), (8, .int x8)] → mR D cs (fA h0 s.heap.size) h s.heap H locs → W p l e ({ frames := 4, cells := 0, slots := 0, locals := 146 } : Room) s m args below meth c H locs 0 0 (MQ below (va_Qv post (mB D cs h0 s.heap.size) (fA h0 s.heap.size)) args s 0 0 (fA h0 s.heap.size)) (F0 m 56 ls [])) : ∀ (x1 : Int32) (x2 : Int32) (x3 : Int32) (x4 : Int64) (x6 : Int64) (x8 : Int32) (h : HS) (H : Heap) (locs : List Loc) (ls : Array Slot), wj_Mod_joinPlace_124 Z post K56 v0 x1 x2 x3 x4 x6 x8 h → lv_has ls 9 [(0, va_rf (some v0)), (1, .int x1), (2, .int x2), (3, .int x3), (4, .long x4), (6, .long x6), (8, .int x8)] → mR D cs (fA h0 s.heap.size) h s.heap H locs → W p l e ({ frames := 4, cells := 0, slots := 0, locals := 146 } : Room) s m args below meth c H locs 0 0 (MQ below (va_Qv post (mB D cs h0 s.heap.size) (fA h0 s.heap.size)) args s 0 0 (fA h0 s.heap.size)) (F0 m 124 ls []) := by
  obtain ⟨hx, hb, hr, hml, hown, hW, hlocks, hnm, hK, hZ⟩ := id C
  have hown : s.vm.findClass "NetJoinsModel" = some m.cls := hown
  have hA : ∀ q, s.heap.size ≤ q → fA h0 s.heap.size q := fun _ h => Or.inr h
  intro x1 x2 x3 x4 x6 x8 h H locs ls hw hl hR
  unfold wj_Mod_joinPlace_124 at hw
  obtain ⟨y1, ey1⟩ : ∃ y : Int32, y = x8 + (1 : Int32) := ⟨_, rfl⟩
  have hw := hw y1 ey1
  refine lv_iinc (v := y1) (lv' := [(8, .int y1), (0, va_rf (some v0)), (1, .int x1), (2, .int x2), (3, .int x3), (4, .long x4), (6, .long x6)]) hx hb d_Mod_joinPlace_124 hl (k := 6) rfl (by rw [ey1]; rfl) (by decide) rfl (fun ls hl => ?_)
  refine lv_goto (tgt := 56) hx hb d_Mod_joinPlace_127 (by decide) ?_
  exact hK56 x1 x2 x3 x4 x6 y1 _ _ _ _ hw (lv_sub hl [1, 2, 3, 4, 5, 6, 0] rfl) hR
set_option maxHeartbeats 4000000 in
set_option maxRecDepth 100000 in
theorem mn_Mod_joinPlace_56 {D : va_G} {cs : CS} {Z : Nat → Nat} {h0 : HS} {p : Program} {l : Launch} {e : Env} {s : State} {m : MethodId} {args : Array Value} {below : List Frame} {meth : Method} {c : Code} {v0 : Nat} (C : mC D cs Z h0 y_Mod_joinPlace c_Mod_joinPlace 9 none p s m args meth c) (post : HS → Prop) : ∀ (n : Nat) (x1 : Int32) (x2 : Int32) (x3 : Int32) (x4 : Int64) (x6 : Int64) (x8 : Int32) (h : HS) (H : Heap) (locs : List Loc) (ls : Array Slot), lpF (wb_Mod_joinPlace_56 Z post v0) n (x1, x2, x3, x4, x6, x8, h) → lv_has ls 9 [(0, va_rf (some v0)), (1, .int x1), (2, .int x2), (3, .int x3), (4, .long x4), (6, .long x6), (8, .int x8)] → mR D cs (fA h0 s.heap.size) h s.heap H locs → W p l e ({ frames := 4, cells := 0, slots := 0, locals := 146 } : Room) s m args below meth c H locs 0 0 (MQ below (va_Qv post (mB D cs h0 s.heap.size) (fA h0 s.heap.size)) args s 0 0 (fA h0 s.heap.size)) (F0 m 56 ls []) := by
  obtain ⟨hx, hb, hr, hml, hown, hW, hlocks, hnm, hK, hZ⟩ := id C
  have hown : s.vm.findClass "NetJoinsModel" = some m.cls := hown
  have hA : ∀ q, s.heap.size ≤ q → fA h0 s.heap.size q := fun _ h => Or.inr h
  intro n
  induction n with
  | zero => intro x1 x2 x3 x4 x6 x8 h H locs ls hw; exact hw.elim
  | succ n ih =>
    intro x1 x2 x3 x4 x6 x8 h H locs ls hw hl hR
    have hw : wb_Mod_joinPlace_56 Z post v0 (lpF (wb_Mod_joinPlace_56 Z post v0) n) (x1, x2, x3, x4, x6, x8, h) := hw
    unfold wb_Mod_joinPlace_56 at hw
    dsimp only at hw
    refine lv_iload hx hb d_Mod_joinPlace_56 (lv_at hl 6 rfl) ?_
    refine mx_aload_n (r := some v0) hx hb d_Mod_joinPlace_58 rfl (lv_at hl 0 rfl) ?_
    obtain ⟨t1, hw⟩ := hw
    refine mx_get (ci := 8) (C := "NetJoinsModel") (T := F_Mod) (N := 33) hx hb hW hown hK.1 hR (a := v0) rfl t1 rfl i_Mod 11 0 (by decide) rfl kw_1146 (fun _ h9 => h9) d_Mod_joinPlace_59 ?_
    refine lv_icmp_ge (tgt := 130) hx hb d_Mod_joinPlace_62 (by decide) (fun c2 => ?_) (fun c2 => ?_)
    · have hw := hw.1 c2
      refine lv_iconst (v := 0) hx hb d_Mod_joinPlace_130 (by decide) ?_
      refine lv_istore (i := 8) (lv' := [(8, .int (0 : Int32)), (0, va_rf (some v0)), (1, .int x1), (2, .int x2), (3, .int x3), (4, .long x4), (6, .long x6)]) hx hb d_Mod_joinPlace_131 hl (by decide) rfl (fun ls hl => ?_)
      obtain ⟨n9, hw⟩ := hw
      exact mn_Mod_joinPlace_133 C post n9 x1 x2 x3 x4 x6 (0 : Int32) _ _ _ _ hw (lv_sub hl [1, 2, 3, 4, 5, 6, 0] rfl) hR
    · have hw := hw.2 c2
      refine mx_aload_n (r := some v0) hx hb d_Mod_joinPlace_65 rfl (lv_at hl 0 rfl) ?_
      obtain ⟨t3, hw⟩ := hw
      refine mx_get (ci := 8) (C := "NetJoinsModel") (T := F_Mod) (N := 33) hx hb hW hown hK.1 hR (a := v0) rfl t3 rfl i_Mod 12 2 (by decide) rfl kw_1147 (fun _ h9 => h9) d_Mod_joinPlace_66 ?_
      refine lv_iload hx hb d_Mod_joinPlace_69 (lv_at hl 6 rfl) ?_
      obtain ⟨a4, ea4, t5, t5i, hw⟩ := hw
      refine mx_iald hx hb hK.1 hR (a := a4) ea4 t5 t5i d_Mod_joinPlace_71 ?_
      refine lv_iload_n hx hb d_Mod_joinPlace_72 rfl (lv_at hl 3 rfl) ?_
      refine lv_icmp_ne (tgt := 124) hx hb d_Mod_joinPlace_73 (by decide) (fun c6 => ?_) (fun c6 => ?_)
      · have hw := hw.1 c6
        exact mn_Mod_joinPlace_124 C post (lpF (wb_Mod_joinPlace_56 Z post v0) n) ih x1 x2 x3 x4 x6 x8 _ _ _ _ hw (lv_sub hl [0, 1, 2, 3, 4, 5, 6] rfl) hR
      · have hw := hw.2 c6
        refine mx_aload_n (r := some v0) hx hb d_Mod_joinPlace_76 rfl (lv_at hl 0 rfl) ?_
        obtain ⟨t7, hw⟩ := hw
        refine mx_get (ci := 8) (C := "NetJoinsModel") (T := F_Mod) (N := 33) hx hb hW hown hK.1 hR (a := v0) rfl t7 rfl i_Mod 14 2 (by decide) rfl kw_1149 (fun _ h9 => h9) d_Mod_joinPlace_77 ?_
        refine lv_iconst (v := 2) hx hb d_Mod_joinPlace_80 (by decide) ?_
        refine lv_iload hx hb d_Mod_joinPlace_81 (lv_at hl 6 rfl) ?_
        refine lv_imul hx hb d_Mod_joinPlace_83 ?_
        obtain ⟨a8, ea8, t9, t9i, hw⟩ := hw
        refine mx_lald hx hb hK.1 hR (a := a8) ea8 t9 t9i d_Mod_joinPlace_84 ?_
        refine lv_lload hx hb d_Mod_joinPlace_85 (lv_at hl 4 rfl) ?_
        refine W.lcmp hx hb d_Mod_joinPlace_87 ?_
        refine lv_if_ne (tgt := 124) hx hb d_Mod_joinPlace_88 (by decide) (fun c10 => ?_) (fun c10 => ?_)
        · have hw := hw.1 c10
          exact mn_Mod_joinPlace_124 C post (lpF (wb_Mod_joinPlace_56 Z post v0) n) ih x1 x2 x3 x4 x6 x8 _ _ _ _ hw (lv_sub hl [0, 1, 2, 3, 4, 5, 6] rfl) hR
        · have hw := hw.2 c10
          refine mx_aload_n (r := some v0) hx hb d_Mod_joinPlace_91 rfl (lv_at hl 0 rfl) ?_
          obtain ⟨t11, hw⟩ := hw
          refine mx_get (ci := 8) (C := "NetJoinsModel") (T := F_Mod) (N := 33) hx hb hW hown hK.1 hR (a := v0) rfl t11 rfl i_Mod 14 2 (by decide) rfl kw_1149 (fun _ h9 => h9) d_Mod_joinPlace_92 ?_
          refine lv_iconst (v := 2) hx hb d_Mod_joinPlace_95 (by decide) ?_
          refine lv_iload hx hb d_Mod_joinPlace_96 (lv_at hl 6 rfl) ?_
          refine lv_imul hx hb d_Mod_joinPlace_98 ?_
          refine lv_iconst (v := 1) hx hb d_Mod_joinPlace_99 (by decide) ?_
          refine lv_iadd hx hb d_Mod_joinPlace_100 ?_
          obtain ⟨a12, ea12, t13, t13i, hw⟩ := hw
          refine mx_lald hx hb hK.1 hR (a := a12) ea12 t13 t13i d_Mod_joinPlace_101 ?_
          refine lv_lload hx hb d_Mod_joinPlace_102 (lv_at hl 5 rfl) ?_
          refine W.lcmp hx hb d_Mod_joinPlace_104 ?_
          refine lv_if_ne (tgt := 124) hx hb d_Mod_joinPlace_105 (by decide) (fun c14 => ?_) (fun c14 => ?_)
          · have hw := hw.1 c14
            exact mn_Mod_joinPlace_124 C post (lpF (wb_Mod_joinPlace_56 Z post v0) n) ih x1 x2 x3 x4 x6 x8 _ _ _ _ hw (lv_sub hl [0, 1, 2, 3, 4, 5, 6] rfl) hR
          · have hw := hw.2 c14
            refine mx_aload_n (r := some v0) hx hb d_Mod_joinPlace_108 rfl (lv_at hl 0 rfl) ?_
            refine lv_iload_n hx hb d_Mod_joinPlace_109 rfl (lv_at hl 1 rfl) ?_
            refine lv_sipush (v := 1600) hx hb d_Mod_joinPlace_110 (by decide) ?_
            refine lv_bipush (v := 16) hx hb d_Mod_joinPlace_113 (by decide) ?_
            refine lv_iload hx hb d_Mod_joinPlace_115 (lv_at hl 6 rfl) ?_
            refine lv_imul hx hb d_Mod_joinPlace_117 ?_
            refine lv_iadd hx hb d_Mod_joinPlace_118 ?_
            refine lv_iload_n hx hb d_Mod_joinPlace_119 rfl (lv_at hl 2 rfl) ?_
            refine lv_iadd hx hb d_Mod_joinPlace_120 ?_
            obtain ⟨t17, hw⟩ := hw
            refine mx_callv (va_runV (b := v0) (As := [.int x1, .int (((1600 : Int32) + ((16 : Int32) * x8)) + x2)]) (rest := []) ⟨hx, hb, hml, hown, hW⟩ (mt_Mod_join l D cs Z _ hw) (mx_cwV hW ok_Mod_join kw_1276 rfl rfl ⟨Nat.le_of_ble_eq_true rfl, Nat.le_of_ble_eq_true rfl⟩) (mx_preV hK hZ hA hR (ci := 8) rfl t17) rfl rfl hl.1 rfl (lv_room (Nat.le_of_ble_eq_true rfl)) d_Mod_joinPlace_121 ⟨Nat.le_of_ble_eq_true rfl, Nat.le_of_ble_eq_true rfl⟩) hR hA (fun h16 H locs hw hR => ?_)
            try dsimp only at hw
            exact mn_Mod_joinPlace_124 C post (lpF (wb_Mod_joinPlace_56 Z post v0) n) ih x1 x2 x3 x4 x6 x8 _ _ _ _ hw (lv_sub hl [0, 1, 2, 3, 4, 5, 6] rfl) hR
set_option maxHeartbeats 4000000 in
set_option maxRecDepth 100000 in
theorem mn_Mod_joinPlace_47 {D : va_G} {cs : CS} {Z : Nat → Nat} {h0 : HS} {p : Program} {l : Launch} {e : Env} {s : State} {m : MethodId} {args : Array Value} {below : List Frame} {meth : Method} {c : Code} {v0 : Nat} (C : mC D cs Z h0 y_Mod_joinPlace c_Mod_joinPlace 9 none p s m args meth c) (post : HS → Prop) (K3 : Int32 × Int32 × Int32 × Int64 × Int64 × Int32 × HS → Prop) (hK3 : ∀ (x1 : Int32) (x2 : Int32) (x3 : Int32) (x4 : Int64) (x6 : Int64) (x8 : Int32) (h : HS) (H : Heap) (locs : List Loc) (ls : Array Slot), K3 (x1, x2, x3, x4, x6, x8, h) → lv_has ls 9 [(0, va_rf (some v0)), (1, .int x1), (2, .int x2), (3, .int x3), (4, .long x4), (6, .long x6), (8, .int x8)] → mR D cs (fA h0 s.heap.size) h s.heap H locs → W p l e ({ frames := 4, cells := 0, slots := 0, locals := 146 } : Room) s m args below meth c H locs 0 0 (MQ below (va_Qv post (mB D cs h0 s.heap.size) (fA h0 s.heap.size)) args s 0 0 (fA h0 s.heap.size)) (F0 m 3 ls [])) : ∀ (x1 : Int32) (x2 : Int32) (x3 : Int32) (x4 : Int64) (x6 : Int64) (x8 : Int32) (h : HS) (H : Heap) (locs : List Loc) (ls : Array Slot), wj_Mod_joinPlace_47 Z post K3 v0 x1 x2 x3 x4 x6 x8 h → lv_has ls 9 [(0, va_rf (some v0)), (1, .int x1), (2, .int x2), (3, .int x3), (4, .long x4), (6, .long x6), (8, .int x8)] → mR D cs (fA h0 s.heap.size) h s.heap H locs → W p l e ({ frames := 4, cells := 0, slots := 0, locals := 146 } : Room) s m args below meth c H locs 0 0 (MQ below (va_Qv post (mB D cs h0 s.heap.size) (fA h0 s.heap.size)) args s 0 0 (fA h0 s.heap.size)) (F0 m 47 ls []) := by
  obtain ⟨hx, hb, hr, hml, hown, hW, hlocks, hnm, hK, hZ⟩ := id C
  have hown : s.vm.findClass "NetJoinsModel" = some m.cls := hown
  have hA : ∀ q, s.heap.size ≤ q → fA h0 s.heap.size q := fun _ h => Or.inr h
  intro x1 x2 x3 x4 x6 x8 h H locs ls hw hl hR
  unfold wj_Mod_joinPlace_47 at hw
  obtain ⟨y1, ey1⟩ : ∃ y : Int32, y = x8 + (1 : Int32) := ⟨_, rfl⟩
  have hw := hw y1 ey1
  refine lv_iinc (v := y1) (lv' := [(8, .int y1), (0, va_rf (some v0)), (1, .int x1), (2, .int x2), (3, .int x3), (4, .long x4), (6, .long x6)]) hx hb d_Mod_joinPlace_47 hl (k := 6) rfl (by rw [ey1]; rfl) (by decide) rfl (fun ls hl => ?_)
  refine lv_goto (tgt := 3) hx hb d_Mod_joinPlace_50 (by decide) ?_
  exact hK3 x1 x2 x3 x4 x6 y1 _ _ _ _ hw (lv_sub hl [1, 2, 3, 4, 5, 6, 0] rfl) hR
set_option maxHeartbeats 4000000 in
set_option maxRecDepth 100000 in
theorem mn_Mod_joinPlace_3 {D : va_G} {cs : CS} {Z : Nat → Nat} {h0 : HS} {p : Program} {l : Launch} {e : Env} {s : State} {m : MethodId} {args : Array Value} {below : List Frame} {meth : Method} {c : Code} {v0 : Nat} (C : mC D cs Z h0 y_Mod_joinPlace c_Mod_joinPlace 9 none p s m args meth c) (post : HS → Prop) : ∀ (n : Nat) (x1 : Int32) (x2 : Int32) (x3 : Int32) (x4 : Int64) (x6 : Int64) (x8 : Int32) (h : HS) (H : Heap) (locs : List Loc) (ls : Array Slot), lpF (wb_Mod_joinPlace_3 Z post v0) n (x1, x2, x3, x4, x6, x8, h) → lv_has ls 9 [(0, va_rf (some v0)), (1, .int x1), (2, .int x2), (3, .int x3), (4, .long x4), (6, .long x6), (8, .int x8)] → mR D cs (fA h0 s.heap.size) h s.heap H locs → W p l e ({ frames := 4, cells := 0, slots := 0, locals := 146 } : Room) s m args below meth c H locs 0 0 (MQ below (va_Qv post (mB D cs h0 s.heap.size) (fA h0 s.heap.size)) args s 0 0 (fA h0 s.heap.size)) (F0 m 3 ls []) := by
  obtain ⟨hx, hb, hr, hml, hown, hW, hlocks, hnm, hK, hZ⟩ := id C
  have hown : s.vm.findClass "NetJoinsModel" = some m.cls := hown
  have hA : ∀ q, s.heap.size ≤ q → fA h0 s.heap.size q := fun _ h => Or.inr h
  intro n
  induction n with
  | zero => intro x1 x2 x3 x4 x6 x8 h H locs ls hw; exact hw.elim
  | succ n ih =>
    intro x1 x2 x3 x4 x6 x8 h H locs ls hw hl hR
    have hw : wb_Mod_joinPlace_3 Z post v0 (lpF (wb_Mod_joinPlace_3 Z post v0) n) (x1, x2, x3, x4, x6, x8, h) := hw
    unfold wb_Mod_joinPlace_3 at hw
    dsimp only at hw
    refine lv_iload hx hb d_Mod_joinPlace_3 (lv_at hl 6 rfl) ?_
    refine mx_aload_n (r := some v0) hx hb d_Mod_joinPlace_5 rfl (lv_at hl 0 rfl) ?_
    obtain ⟨t1, hw⟩ := hw
    refine mx_get (ci := 8) (C := "NetJoinsModel") (T := F_Mod) (N := 33) hx hb hW hown hK.1 hR (a := v0) rfl t1 rfl i_Mod 4 0 (by decide) rfl kw_1139 (fun _ h9 => h9) d_Mod_joinPlace_6 ?_
    refine lv_icmp_ge (tgt := 53) hx hb d_Mod_joinPlace_9 (by decide) (fun c2 => ?_) (fun c2 => ?_)
    · have hw := hw.1 c2
      refine lv_iconst (v := 0) hx hb d_Mod_joinPlace_53 (by decide) ?_
      refine lv_istore (i := 8) (lv' := [(8, .int (0 : Int32)), (0, va_rf (some v0)), (1, .int x1), (2, .int x2), (3, .int x3), (4, .long x4), (6, .long x6)]) hx hb d_Mod_joinPlace_54 hl (by decide) rfl (fun ls hl => ?_)
      obtain ⟨n9, hw⟩ := hw
      exact mn_Mod_joinPlace_56 C post n9 x1 x2 x3 x4 x6 (0 : Int32) _ _ _ _ hw (lv_sub hl [1, 2, 3, 4, 5, 6, 0] rfl) hR
    · have hw := hw.2 c2
      refine mx_aload_n (r := some v0) hx hb d_Mod_joinPlace_12 rfl (lv_at hl 0 rfl) ?_
      refine lv_iload hx hb d_Mod_joinPlace_13 (lv_at hl 6 rfl) ?_
      refine lv_iload_n hx hb d_Mod_joinPlace_15 rfl (lv_at hl 3 rfl) ?_
      obtain ⟨t5, hw⟩ := hw
      refine mx_calli (va_runV (b := v0) (As := [.int x8, .int x3]) (rest := []) ⟨hx, hb, hml, hown, hW⟩ (mt_Mod_isOn l D cs Z _ hw) (mx_cwV hW ok_Mod_isOn kw_1264 rfl rfl ⟨Nat.le_of_ble_eq_true rfl, Nat.le_of_ble_eq_true rfl⟩) (mx_preV hK hZ hA hR (ci := 8) rfl t5) rfl rfl hl.1 rfl (lv_room (Nat.le_of_ble_eq_true rfl)) d_Mod_joinPlace_16 ⟨Nat.le_of_ble_eq_true rfl, Nat.le_of_ble_eq_true rfl⟩) hR hA (fun r3 h4 H locs hw hR => ?_)
      try dsimp only at hw
      refine lv_if_eq (tgt := 47) hx hb d_Mod_joinPlace_19 (by decide) (fun c6 => ?_) (fun c6 => ?_)
      · have hw := hw.1 c6
        exact mn_Mod_joinPlace_47 C post (lpF (wb_Mod_joinPlace_3 Z post v0) n) ih x1 x2 x3 x4 x6 x8 _ _ _ _ hw (lv_sub hl [0, 1, 2, 3, 4, 5, 6] rfl) hR
      · have hw := hw.2 c6
        refine mx_aload_n (r := some v0) hx hb d_Mod_joinPlace_22 rfl (lv_at hl 0 rfl) ?_
        refine lv_iload hx hb d_Mod_joinPlace_23 (lv_at hl 6 rfl) ?_
        refine lv_lload hx hb d_Mod_joinPlace_25 (lv_at hl 4 rfl) ?_
        refine lv_lload hx hb d_Mod_joinPlace_27 (lv_at hl 5 rfl) ?_
        obtain ⟨t9, hw⟩ := hw
        refine mx_calli (va_runV (b := v0) (As := [.int x8, .long x4, .long x6]) (rest := []) ⟨hx, hb, hml, hown, hW⟩ (mt_Mod_goesThrough l D cs Z _ hw) (mx_cwV hW ok_Mod_goesThrough kw_1272 rfl rfl ⟨Nat.le_of_ble_eq_true rfl, Nat.le_of_ble_eq_true rfl⟩) (mx_preV hK hZ hA hR (ci := 8) rfl t9) rfl rfl hl.1 rfl (lv_room (Nat.le_of_ble_eq_true rfl)) d_Mod_joinPlace_29 ⟨Nat.le_of_ble_eq_true rfl, Nat.le_of_ble_eq_true rfl⟩) hR hA (fun r7 h8 H locs hw hR => ?_)
        try dsimp only at hw
        refine lv_if_eq (tgt := 47) hx hb d_Mod_joinPlace_32 (by decide) (fun c10 => ?_) (fun c10 => ?_)
        · have hw := hw.1 c10
          exact mn_Mod_joinPlace_47 C post (lpF (wb_Mod_joinPlace_3 Z post v0) n) ih x1 x2 x3 x4 x6 x8 _ _ _ _ hw (lv_sub hl [0, 1, 2, 3, 4, 5, 6] rfl) hR
        · have hw := hw.2 c10
          refine mx_aload_n (r := some v0) hx hb d_Mod_joinPlace_35 rfl (lv_at hl 0 rfl) ?_
          refine lv_iload_n hx hb d_Mod_joinPlace_36 rfl (lv_at hl 1 rfl) ?_
          refine lv_bipush (v := 16) hx hb d_Mod_joinPlace_37 (by decide) ?_
          refine lv_iload hx hb d_Mod_joinPlace_39 (lv_at hl 6 rfl) ?_
          refine lv_imul hx hb d_Mod_joinPlace_41 ?_
          refine lv_iload_n hx hb d_Mod_joinPlace_42 rfl (lv_at hl 2 rfl) ?_
          refine lv_iadd hx hb d_Mod_joinPlace_43 ?_
          obtain ⟨t13, hw⟩ := hw
          refine mx_callv (va_runV (b := v0) (As := [.int x1, .int (((16 : Int32) * x8) + x2)]) (rest := []) ⟨hx, hb, hml, hown, hW⟩ (mt_Mod_join l D cs Z _ hw) (mx_cwV hW ok_Mod_join kw_1276 rfl rfl ⟨Nat.le_of_ble_eq_true rfl, Nat.le_of_ble_eq_true rfl⟩) (mx_preV hK hZ hA hR (ci := 8) rfl t13) rfl rfl hl.1 rfl (lv_room (Nat.le_of_ble_eq_true rfl)) d_Mod_joinPlace_44 ⟨Nat.le_of_ble_eq_true rfl, Nat.le_of_ble_eq_true rfl⟩) hR hA (fun h12 H locs hw hR => ?_)
          try dsimp only at hw
          exact mn_Mod_joinPlace_47 C post (lpF (wb_Mod_joinPlace_3 Z post v0) n) ih x1 x2 x3 x4 x6 x8 _ _ _ _ hw (lv_sub hl [0, 1, 2, 3, 4, 5, 6] rfl) hR
set_option maxHeartbeats 4000000 in
set_option maxRecDepth 100000 in
theorem mt_Mod_joinPlace (l : Launch) (D : va_G) (cs : CS) (Z : Nat → Nat) (sz : Nat) {post : HS → Prop} {h : HS} {v0 : Nat} {x1 : Int32} {x2 : Int32} {x3 : Int32} {x4 : Int64} {x6 : Int64} (hw : wp_Mod_joinPlace Z post h v0 x1 x2 x3 x4 x6) : Met l y_Mod_joinPlace (Cond.code y_Mod_joinPlace c_Mod_joinPlace 9 none :: WA) ({ frames := 4, cells := 0, slots := 0, locals := 146 } : Room) (mPc D cs Z h sz [va_rf (some v0), .int x1, .int x2, .int x3, .long x4, .long x6]) (va_Qv post (mB D cs h sz) (fA h sz)) 0 0 (fA h sz) := by
  refine mx_met (fun sz => va_Qv post (mB D cs h sz) (fA h sz)) (by decide) (by simp [lg_sl, mx_rf_cat, cat_i, cat_l]) ?_
  intro p e s m args below meth c C hR ls hl
  have hl : lv_has ls 9 [(0, va_rf (some v0)), (1, .int x1), (2, .int x2), (3, .int x3), (4, .long x4), (6, .long x6)] := hl
  obtain ⟨hx, hb, hr, hml, hown, hW, hlocks, hnm, hK, hZ⟩ := id C
  have hown : s.vm.findClass "NetJoinsModel" = some m.cls := hown
  have hA : ∀ q, s.heap.size ≤ q → fA h s.heap.size q := fun _ h => Or.inr h
  unfold wp_Mod_joinPlace at hw
  refine lv_iconst (v := 0) hx hb d_Mod_joinPlace_0 (by decide) ?_
  refine lv_istore (i := 8) (lv' := [(8, .int (0 : Int32)), (0, va_rf (some v0)), (1, .int x1), (2, .int x2), (3, .int x3), (4, .long x4), (6, .long x6)]) hx hb d_Mod_joinPlace_1 hl (by decide) rfl (fun ls hl => ?_)
  obtain ⟨n9, hw⟩ := hw
  exact mn_Mod_joinPlace_3 C post n9 x1 x2 x3 x4 x6 (0 : Int32) _ _ _ _ hw (lv_sub hl [1, 2, 3, 4, 5, 6, 0] rfl) hR
set_option maxHeartbeats 4000000 in
set_option maxRecDepth 100000 in
theorem mt_Mod_nameNode (l : Launch) (D : va_G) (cs : CS) (Z : Nat → Nat) (sz : Nat) {post : Int32 → HS → Prop} {h : HS} {v0 : Nat} {x1 : Int32} {x2 : Int32} (hw : wp_Mod_nameNode Z post h v0 x1 x2) : Met l y_Mod_nameNode (Cond.code y_Mod_nameNode c_Mod_nameNode 3 (some .int) :: WA) ({ frames := 2, cells := 0, slots := 0, locals := 100 } : Room) (mPc D cs Z h sz [va_rf (some v0), .int x1, .int x2]) (va_Qi post (mB D cs h sz) (fA h sz)) 0 0 (fA h sz) := by
  refine mx_met (fun sz => va_Qi post (mB D cs h sz) (fA h sz)) (by decide) (by simp [lg_sl, mx_rf_cat, cat_i, cat_l]) ?_
  intro p e s m args below meth c C hR ls hl
  have hl : lv_has ls 3 [(0, va_rf (some v0)), (1, .int x1), (2, .int x2)] := hl
  obtain ⟨hx, hb, hr, hml, hown, hW, hlocks, hnm, hK, hZ⟩ := id C
  have hown : s.vm.findClass "NetJoinsModel" = some m.cls := hown
  have hA : ∀ q, s.heap.size ≤ q → fA h s.heap.size q := fun _ h => Or.inr h
  unfold wp_Mod_nameNode at hw
  refine lv_sipush (v := 3520) hx hb d_Mod_nameNode_0 (by decide) ?_
  refine lv_iload_n hx hb d_Mod_nameNode_3 rfl (lv_at hl 2 rfl) ?_
  refine lv_sipush (v := 900) hx hb d_Mod_nameNode_4 (by decide) ?_
  refine lv_icmp_lt (tgt := 14) hx hb d_Mod_nameNode_7 (by decide) (fun c1 => ?_) (fun c1 => ?_)
  · have hw := hw.1 c1
    refine lv_sipush (v := 1000) hx hb d_Mod_nameNode_14 (by decide) ?_
    refine lv_iload_n hx hb d_Mod_nameNode_17 rfl (lv_at hl 1 rfl) ?_
    refine lv_imul hx hb d_Mod_nameNode_18 ?_
    refine lv_iadd hx hb d_Mod_nameNode_19 ?_
    refine lv_iload_n hx hb d_Mod_nameNode_20 rfl (lv_at hl 2 rfl) ?_
    refine lv_iadd hx hb d_Mod_nameNode_21 ?_
    exact mx_iret hx hb hr hlocks hR hw d_Mod_nameNode_22
  · have hw := hw.2 c1
    refine lv_iconst (v := 0) hx hb d_Mod_nameNode_10 (by decide) ?_
    refine lv_goto (tgt := 19) hx hb d_Mod_nameNode_11 (by decide) ?_
    refine lv_iadd hx hb d_Mod_nameNode_19 ?_
    refine lv_iload_n hx hb d_Mod_nameNode_20 rfl (lv_at hl 2 rfl) ?_
    refine lv_iadd hx hb d_Mod_nameNode_21 ?_
    exact mx_iret hx hb hr hlocks hR hw d_Mod_nameNode_22
set_option maxHeartbeats 4000000 in
set_option maxRecDepth 100000 in
theorem mn_Mod_joinSheet_151 {D : va_G} {cs : CS} {Z : Nat → Nat} {h0 : HS} {p : Program} {l : Launch} {e : Env} {s : State} {m : MethodId} {args : Array Value} {below : List Frame} {meth : Method} {c : Code} {v0 : Nat} (C : mC D cs Z h0 y_Mod_joinSheet c_Mod_joinSheet 5 none p s m args meth c) (post : HS → Prop) (K99 : Int32 × Int32 × Int32 × HS → Prop) (hK99 : ∀ (x1 : Int32) (x2 : Int32) (x3 : Int32) (h : HS) (H : Heap) (locs : List Loc) (ls : Array Slot), K99 (x1, x2, x3, h) → lv_has ls 5 [(0, va_rf (some v0)), (1, .int x1), (2, .int x2), (3, .int x3)] → mR D cs (fA h0 s.heap.size) h s.heap H locs → W p l e ({ frames := 5, cells := 0, slots := 0, locals := 174 } : Room) s m args below meth c H locs 0 0 (MQ below (va_Qv post (mB D cs h0 s.heap.size) (fA h0 s.heap.size)) args s 0 0 (fA h0 s.heap.size)) (F0 m 99 ls [])) : ∀ (x1 : Int32) (x2 : Int32) (x3 : Int32) (h : HS) (H : Heap) (locs : List Loc) (ls : Array Slot), wj_Mod_joinSheet_151 Z post K99 v0 x1 x2 x3 h → lv_has ls 5 [(0, va_rf (some v0)), (1, .int x1), (2, .int x2), (3, .int x3)] → mR D cs (fA h0 s.heap.size) h s.heap H locs → W p l e ({ frames := 5, cells := 0, slots := 0, locals := 174 } : Room) s m args below meth c H locs 0 0 (MQ below (va_Qv post (mB D cs h0 s.heap.size) (fA h0 s.heap.size)) args s 0 0 (fA h0 s.heap.size)) (F0 m 151 ls []) := by
  obtain ⟨hx, hb, hr, hml, hown, hW, hlocks, hnm, hK, hZ⟩ := id C
  have hown : s.vm.findClass "NetJoinsModel" = some m.cls := hown
  have hA : ∀ q, s.heap.size ≤ q → fA h0 s.heap.size q := fun _ h => Or.inr h
  intro x1 x2 x3 h H locs ls hw hl hR
  unfold wj_Mod_joinSheet_151 at hw
  obtain ⟨y1, ey1⟩ : ∃ y : Int32, y = x3 + (1 : Int32) := ⟨_, rfl⟩
  have hw := hw y1 ey1
  refine lv_iinc (v := y1) (lv' := [(3, .int y1), (0, va_rf (some v0)), (1, .int x1), (2, .int x2)]) hx hb d_Mod_joinSheet_151 hl (k := 3) rfl (by rw [ey1]; rfl) (by decide) rfl (fun ls hl => ?_)
  refine lv_goto (tgt := 99) hx hb d_Mod_joinSheet_154 (by decide) ?_
  exact hK99 x1 x2 y1 _ _ _ _ hw (lv_sub hl [1, 2, 3, 0] rfl) hR
set_option maxHeartbeats 4000000 in
set_option maxRecDepth 100000 in
theorem mn_Mod_joinSheet_99 {D : va_G} {cs : CS} {Z : Nat → Nat} {h0 : HS} {p : Program} {l : Launch} {e : Env} {s : State} {m : MethodId} {args : Array Value} {below : List Frame} {meth : Method} {c : Code} {v0 : Nat} (C : mC D cs Z h0 y_Mod_joinSheet c_Mod_joinSheet 5 none p s m args meth c) (post : HS → Prop) : ∀ (n : Nat) (x1 : Int32) (x2 : Int32) (x3 : Int32) (h : HS) (H : Heap) (locs : List Loc) (ls : Array Slot), lpF (wb_Mod_joinSheet_99 Z post v0) n (x1, x2, x3, h) → lv_has ls 5 [(0, va_rf (some v0)), (1, .int x1), (2, .int x2), (3, .int x3)] → mR D cs (fA h0 s.heap.size) h s.heap H locs → W p l e ({ frames := 5, cells := 0, slots := 0, locals := 174 } : Room) s m args below meth c H locs 0 0 (MQ below (va_Qv post (mB D cs h0 s.heap.size) (fA h0 s.heap.size)) args s 0 0 (fA h0 s.heap.size)) (F0 m 99 ls []) := by
  obtain ⟨hx, hb, hr, hml, hown, hW, hlocks, hnm, hK, hZ⟩ := id C
  have hown : s.vm.findClass "NetJoinsModel" = some m.cls := hown
  have hA : ∀ q, s.heap.size ≤ q → fA h0 s.heap.size q := fun _ h => Or.inr h
  intro n
  induction n with
  | zero => intro x1 x2 x3 h H locs ls hw; exact hw.elim
  | succ n ih =>
    intro x1 x2 x3 h H locs ls hw hl hR
    have hw : wb_Mod_joinSheet_99 Z post v0 (lpF (wb_Mod_joinSheet_99 Z post v0) n) (x1, x2, x3, h) := hw
    unfold wb_Mod_joinSheet_99 at hw
    dsimp only at hw
    refine lv_iload_n hx hb d_Mod_joinSheet_99 rfl (lv_at hl 3 rfl) ?_
    refine mx_aload_n (r := some v0) hx hb d_Mod_joinSheet_100 rfl (lv_at hl 0 rfl) ?_
    obtain ⟨t1, hw⟩ := hw
    refine mx_get (ci := 8) (C := "NetJoinsModel") (T := F_Mod) (N := 33) hx hb hW hown hK.1 hR (a := v0) rfl t1 rfl i_Mod 15 0 (by decide) rfl kw_1150 (fun _ h9 => h9) d_Mod_joinSheet_101 ?_
    refine lv_icmp_ge (tgt := 157) hx hb d_Mod_joinSheet_104 (by decide) (fun c2 => ?_) (fun c2 => ?_)
    · have hw := hw.1 c2
      exact mx_vret hx hb hr hlocks hR hw d_Mod_joinSheet_157
    · have hw := hw.2 c2
      refine mx_aload_n (r := some v0) hx hb d_Mod_joinSheet_107 rfl (lv_at hl 0 rfl) ?_
      obtain ⟨t3, hw⟩ := hw
      refine mx_get (ci := 8) (C := "NetJoinsModel") (T := F_Mod) (N := 33) hx hb hW hown hK.1 hR (a := v0) rfl t3 rfl i_Mod 16 2 (by decide) rfl kw_1151 (fun _ h9 => h9) d_Mod_joinSheet_108 ?_
      refine lv_iload_n hx hb d_Mod_joinSheet_111 rfl (lv_at hl 3 rfl) ?_
      obtain ⟨a4, ea4, t5, t5i, hw⟩ := hw
      refine mx_iald hx hb hK.1 hR (a := a4) ea4 t5 t5i d_Mod_joinSheet_112 ?_
      refine lv_iload_n hx hb d_Mod_joinSheet_113 rfl (lv_at hl 2 rfl) ?_
      refine lv_icmp_ne (tgt := 151) hx hb d_Mod_joinSheet_114 (by decide) (fun c6 => ?_) (fun c6 => ?_)
      · have hw := hw.1 c6
        exact mn_Mod_joinSheet_151 C post (lpF (wb_Mod_joinSheet_99 Z post v0) n) ih x1 x2 x3 _ _ _ _ hw (lv_sub hl [0, 1, 2, 3] rfl) hR
      · have hw := hw.2 c6
        refine mx_aload_n (r := some v0) hx hb d_Mod_joinSheet_117 rfl (lv_at hl 0 rfl) ?_
        refine lv_sipush (v := 2560) hx hb d_Mod_joinSheet_118 (by decide) ?_
        refine lv_bipush (v := 16) hx hb d_Mod_joinSheet_121 (by decide) ?_
        refine lv_iload_n hx hb d_Mod_joinSheet_123 rfl (lv_at hl 3 rfl) ?_
        refine lv_imul hx hb d_Mod_joinSheet_124 ?_
        refine lv_iadd hx hb d_Mod_joinSheet_125 ?_
        refine lv_iload_n hx hb d_Mod_joinSheet_126 rfl (lv_at hl 1 rfl) ?_
        refine lv_iadd hx hb d_Mod_joinSheet_127 ?_
        refine lv_iload_n hx hb d_Mod_joinSheet_128 rfl (lv_at hl 1 rfl) ?_
        refine lv_iload_n hx hb d_Mod_joinSheet_129 rfl (lv_at hl 2 rfl) ?_
        refine mx_aload_n (r := some v0) hx hb d_Mod_joinSheet_130 rfl (lv_at hl 0 rfl) ?_
        obtain ⟨t7, hw⟩ := hw
        refine mx_get (ci := 8) (C := "NetJoinsModel") (T := F_Mod) (N := 33) hx hb hW hown hK.1 hR (a := v0) rfl t7 rfl i_Mod 18 2 (by decide) rfl kw_1153 (fun _ h9 => h9) d_Mod_joinSheet_131 ?_
        refine lv_iconst (v := 2) hx hb d_Mod_joinSheet_134 (by decide) ?_
        refine lv_iload_n hx hb d_Mod_joinSheet_135 rfl (lv_at hl 3 rfl) ?_
        refine lv_imul hx hb d_Mod_joinSheet_136 ?_
        obtain ⟨a8, ea8, t9, t9i, hw⟩ := hw
        refine mx_lald hx hb hK.1 hR (a := a8) ea8 t9 t9i d_Mod_joinSheet_137 ?_
        refine mx_aload_n (r := some v0) hx hb d_Mod_joinSheet_138 rfl (lv_at hl 0 rfl) ?_
        obtain ⟨t10, hw⟩ := hw
        refine mx_get (ci := 8) (C := "NetJoinsModel") (T := F_Mod) (N := 33) hx hb hW hown hK.1 hR (a := v0) rfl t10 rfl i_Mod 18 2 (by decide) rfl kw_1153 (fun _ h9 => h9) d_Mod_joinSheet_139 ?_
        refine lv_iconst (v := 2) hx hb d_Mod_joinSheet_142 (by decide) ?_
        refine lv_iload_n hx hb d_Mod_joinSheet_143 rfl (lv_at hl 3 rfl) ?_
        refine lv_imul hx hb d_Mod_joinSheet_144 ?_
        refine lv_iconst (v := 1) hx hb d_Mod_joinSheet_145 (by decide) ?_
        refine lv_iadd hx hb d_Mod_joinSheet_146 ?_
        obtain ⟨a11, ea11, t12, t12i, hw⟩ := hw
        refine mx_lald hx hb hK.1 hR (a := a11) ea11 t12 t12i d_Mod_joinSheet_147 ?_
        obtain ⟨t15, hw⟩ := hw
        refine mx_callv (va_runV (b := v0) (As := [.int (((2560 : Int32) + ((16 : Int32) * x3)) + x1), .int x1, .int x2, .long (gL h a8 ((2 : Int32) * x3).toNatClampNeg), .long (gL h a11 (((2 : Int32) * x3) + (1 : Int32)).toNatClampNeg)]) (rest := []) ⟨hx, hb, hml, hown, hW⟩ (mt_Mod_joinPlace l D cs Z _ hw) (mx_cwV hW ok_Mod_joinPlace kw_1284 rfl rfl ⟨Nat.le_of_ble_eq_true rfl, Nat.le_of_ble_eq_true rfl⟩) (mx_preV hK hZ hA hR (ci := 8) rfl t15) rfl rfl hl.1 rfl (lv_room (Nat.le_of_ble_eq_true rfl)) d_Mod_joinSheet_148 ⟨Nat.le_of_ble_eq_true rfl, Nat.le_of_ble_eq_true rfl⟩) hR hA (fun h14 H locs hw hR => ?_)
        try dsimp only at hw
        exact mn_Mod_joinSheet_151 C post (lpF (wb_Mod_joinSheet_99 Z post v0) n) ih x1 x2 x3 _ _ _ _ hw (lv_sub hl [0, 1, 2, 3] rfl) hR
set_option maxHeartbeats 4000000 in
set_option maxRecDepth 100000 in
theorem mn_Mod_joinSheet_91 {D : va_G} {cs : CS} {Z : Nat → Nat} {h0 : HS} {p : Program} {l : Launch} {e : Env} {s : State} {m : MethodId} {args : Array Value} {below : List Frame} {meth : Method} {c : Code} {v0 : Nat} (C : mC D cs Z h0 y_Mod_joinSheet c_Mod_joinSheet 5 none p s m args meth c) (post : HS → Prop) (K15 : Int32 × Int32 × Int32 × HS → Prop) (hK15 : ∀ (x1 : Int32) (x2 : Int32) (x3 : Int32) (h : HS) (H : Heap) (locs : List Loc) (ls : Array Slot), K15 (x1, x2, x3, h) → lv_has ls 5 [(0, va_rf (some v0)), (1, .int x1), (2, .int x2), (3, .int x3)] → mR D cs (fA h0 s.heap.size) h s.heap H locs → W p l e ({ frames := 5, cells := 0, slots := 0, locals := 174 } : Room) s m args below meth c H locs 0 0 (MQ below (va_Qv post (mB D cs h0 s.heap.size) (fA h0 s.heap.size)) args s 0 0 (fA h0 s.heap.size)) (F0 m 15 ls [])) : ∀ (x1 : Int32) (x2 : Int32) (x3 : Int32) (h : HS) (H : Heap) (locs : List Loc) (ls : Array Slot), wj_Mod_joinSheet_91 Z post K15 v0 x1 x2 x3 h → lv_has ls 5 [(0, va_rf (some v0)), (1, .int x1), (2, .int x2), (3, .int x3)] → mR D cs (fA h0 s.heap.size) h s.heap H locs → W p l e ({ frames := 5, cells := 0, slots := 0, locals := 174 } : Room) s m args below meth c H locs 0 0 (MQ below (va_Qv post (mB D cs h0 s.heap.size) (fA h0 s.heap.size)) args s 0 0 (fA h0 s.heap.size)) (F0 m 91 ls []) := by
  obtain ⟨hx, hb, hr, hml, hown, hW, hlocks, hnm, hK, hZ⟩ := id C
  have hown : s.vm.findClass "NetJoinsModel" = some m.cls := hown
  have hA : ∀ q, s.heap.size ≤ q → fA h0 s.heap.size q := fun _ h => Or.inr h
  intro x1 x2 x3 h H locs ls hw hl hR
  unfold wj_Mod_joinSheet_91 at hw
  obtain ⟨y1, ey1⟩ : ∃ y : Int32, y = x3 + (1 : Int32) := ⟨_, rfl⟩
  have hw := hw y1 ey1
  refine lv_iinc (v := y1) (lv' := [(3, .int y1), (0, va_rf (some v0)), (1, .int x1), (2, .int x2)]) hx hb d_Mod_joinSheet_91 hl (k := 3) rfl (by rw [ey1]; rfl) (by decide) rfl (fun ls hl => ?_)
  refine lv_goto (tgt := 15) hx hb d_Mod_joinSheet_94 (by decide) ?_
  exact hK15 x1 x2 y1 _ _ _ _ hw (lv_sub hl [1, 2, 3, 0] rfl) hR
set_option maxHeartbeats 4000000 in
set_option maxRecDepth 100000 in
theorem mn_Mod_joinSheet_15 {D : va_G} {cs : CS} {Z : Nat → Nat} {h0 : HS} {p : Program} {l : Launch} {e : Env} {s : State} {m : MethodId} {args : Array Value} {below : List Frame} {meth : Method} {c : Code} {v0 : Nat} (C : mC D cs Z h0 y_Mod_joinSheet c_Mod_joinSheet 5 none p s m args meth c) (post : HS → Prop) : ∀ (n : Nat) (x1 : Int32) (x2 : Int32) (x3 : Int32) (h : HS) (H : Heap) (locs : List Loc) (ls : Array Slot), lpF (wb_Mod_joinSheet_15 Z post v0) n (x1, x2, x3, h) → lv_has ls 5 [(0, va_rf (some v0)), (1, .int x1), (2, .int x2), (3, .int x3)] → mR D cs (fA h0 s.heap.size) h s.heap H locs → W p l e ({ frames := 5, cells := 0, slots := 0, locals := 174 } : Room) s m args below meth c H locs 0 0 (MQ below (va_Qv post (mB D cs h0 s.heap.size) (fA h0 s.heap.size)) args s 0 0 (fA h0 s.heap.size)) (F0 m 15 ls []) := by
  obtain ⟨hx, hb, hr, hml, hown, hW, hlocks, hnm, hK, hZ⟩ := id C
  have hown : s.vm.findClass "NetJoinsModel" = some m.cls := hown
  have hA : ∀ q, s.heap.size ≤ q → fA h0 s.heap.size q := fun _ h => Or.inr h
  intro n
  induction n with
  | zero => intro x1 x2 x3 h H locs ls hw; exact hw.elim
  | succ n ih =>
    intro x1 x2 x3 h H locs ls hw hl hR
    have hw : wb_Mod_joinSheet_15 Z post v0 (lpF (wb_Mod_joinSheet_15 Z post v0) n) (x1, x2, x3, h) := hw
    unfold wb_Mod_joinSheet_15 at hw
    dsimp only at hw
    refine lv_iload_n hx hb d_Mod_joinSheet_15 rfl (lv_at hl 3 rfl) ?_
    refine mx_aload_n (r := some v0) hx hb d_Mod_joinSheet_16 rfl (lv_at hl 0 rfl) ?_
    obtain ⟨t1, hw⟩ := hw
    refine mx_get (ci := 8) (C := "NetJoinsModel") (T := F_Mod) (N := 33) hx hb hW hown hK.1 hR (a := v0) rfl t1 rfl i_Mod 11 0 (by decide) rfl kw_1146 (fun _ h9 => h9) d_Mod_joinSheet_17 ?_
    refine lv_icmp_ge (tgt := 97) hx hb d_Mod_joinSheet_20 (by decide) (fun c2 => ?_) (fun c2 => ?_)
    · have hw := hw.1 c2
      refine lv_iconst (v := 0) hx hb d_Mod_joinSheet_97 (by decide) ?_
      refine lv_istore_n (i := 3) (lv' := [(3, .int (0 : Int32)), (0, va_rf (some v0)), (1, .int x1), (2, .int x2)]) hx hb d_Mod_joinSheet_98 rfl hl (by decide) rfl (fun ls hl => ?_)
      obtain ⟨n9, hw⟩ := hw
      exact mn_Mod_joinSheet_99 C post n9 x1 x2 (0 : Int32) _ _ _ _ hw (lv_sub hl [1, 2, 3, 0] rfl) hR
    · have hw := hw.2 c2
      refine mx_aload_n (r := some v0) hx hb d_Mod_joinSheet_23 rfl (lv_at hl 0 rfl) ?_
      obtain ⟨t3, hw⟩ := hw
      refine mx_get (ci := 8) (C := "NetJoinsModel") (T := F_Mod) (N := 33) hx hb hW hown hK.1 hR (a := v0) rfl t3 rfl i_Mod 12 2 (by decide) rfl kw_1147 (fun _ h9 => h9) d_Mod_joinSheet_24 ?_
      refine lv_iload_n hx hb d_Mod_joinSheet_27 rfl (lv_at hl 3 rfl) ?_
      obtain ⟨a4, ea4, t5, t5i, hw⟩ := hw
      refine mx_iald hx hb hK.1 hR (a := a4) ea4 t5 t5i d_Mod_joinSheet_28 ?_
      refine lv_iload_n hx hb d_Mod_joinSheet_29 rfl (lv_at hl 2 rfl) ?_
      refine lv_icmp_eq (tgt := 36) hx hb d_Mod_joinSheet_30 (by decide) (fun c6 => ?_) (fun c6 => ?_)
      · have hw := hw.1 c6
        refine lv_sipush (v := 1600) hx hb d_Mod_joinSheet_36 (by decide) ?_
        refine lv_bipush (v := 16) hx hb d_Mod_joinSheet_39 (by decide) ?_
        refine lv_iload_n hx hb d_Mod_joinSheet_41 rfl (lv_at hl 3 rfl) ?_
        refine lv_imul hx hb d_Mod_joinSheet_42 ?_
        refine lv_iadd hx hb d_Mod_joinSheet_43 ?_
        refine lv_iload_n hx hb d_Mod_joinSheet_44 rfl (lv_at hl 1 rfl) ?_
        refine lv_iadd hx hb d_Mod_joinSheet_45 ?_
        refine lv_topi (fun y7 ey7 => ?_)
        have hw := hw y7 ey7
        refine lv_istore (i := 4) (lv' := [(4, .int y7), (0, va_rf (some v0)), (1, .int x1), (2, .int x2), (3, .int x3)]) hx hb d_Mod_joinSheet_46 hl (by decide) rfl (fun ls hl => ?_)
        refine mx_aload_n (r := some v0) hx hb d_Mod_joinSheet_48 rfl (lv_at hl 1 rfl) ?_
        refine lv_iload hx hb d_Mod_joinSheet_49 (lv_at hl 0 rfl) ?_
        refine lv_iload_n hx hb d_Mod_joinSheet_51 rfl (lv_at hl 2 rfl) ?_
        refine lv_iload_n hx hb d_Mod_joinSheet_52 rfl (lv_at hl 3 rfl) ?_
        refine mx_aload_n (r := some v0) hx hb d_Mod_joinSheet_53 rfl (lv_at hl 1 rfl) ?_
        obtain ⟨t8, hw⟩ := hw
        refine mx_get (ci := 8) (C := "NetJoinsModel") (T := F_Mod) (N := 33) hx hb hW hown hK.1 hR (a := v0) rfl t8 rfl i_Mod 14 2 (by decide) rfl kw_1149 (fun _ h9 => h9) d_Mod_joinSheet_54 ?_
        refine lv_iconst (v := 2) hx hb d_Mod_joinSheet_57 (by decide) ?_
        refine lv_iload_n hx hb d_Mod_joinSheet_58 rfl (lv_at hl 4 rfl) ?_
        refine lv_imul hx hb d_Mod_joinSheet_59 ?_
        obtain ⟨a9, ea9, t10, t10i, hw⟩ := hw
        refine mx_lald hx hb hK.1 hR (a := a9) ea9 t10 t10i d_Mod_joinSheet_60 ?_
        refine mx_aload_n (r := some v0) hx hb d_Mod_joinSheet_61 rfl (lv_at hl 1 rfl) ?_
        obtain ⟨t11, hw⟩ := hw
        refine mx_get (ci := 8) (C := "NetJoinsModel") (T := F_Mod) (N := 33) hx hb hW hown hK.1 hR (a := v0) rfl t11 rfl i_Mod 14 2 (by decide) rfl kw_1149 (fun _ h9 => h9) d_Mod_joinSheet_62 ?_
        refine lv_iconst (v := 2) hx hb d_Mod_joinSheet_65 (by decide) ?_
        refine lv_iload_n hx hb d_Mod_joinSheet_66 rfl (lv_at hl 4 rfl) ?_
        refine lv_imul hx hb d_Mod_joinSheet_67 ?_
        refine lv_iconst (v := 1) hx hb d_Mod_joinSheet_68 (by decide) ?_
        refine lv_iadd hx hb d_Mod_joinSheet_69 ?_
        obtain ⟨a12, ea12, t13, t13i, hw⟩ := hw
        refine mx_lald hx hb hK.1 hR (a := a12) ea12 t13 t13i d_Mod_joinSheet_70 ?_
        obtain ⟨t16, hw⟩ := hw
        refine mx_callv (va_runV (b := v0) (As := [.int y7, .int x1, .int x2, .long (gL h a9 ((2 : Int32) * x3).toNatClampNeg), .long (gL h a12 (((2 : Int32) * x3) + (1 : Int32)).toNatClampNeg)]) (rest := []) ⟨hx, hb, hml, hown, hW⟩ (mt_Mod_joinPlace l D cs Z _ hw) (mx_cwV hW ok_Mod_joinPlace kw_1284 rfl rfl ⟨Nat.le_of_ble_eq_true rfl, Nat.le_of_ble_eq_true rfl⟩) (mx_preV hK hZ hA hR (ci := 8) rfl t16) rfl rfl hl.1 rfl (lv_room (Nat.le_of_ble_eq_true rfl)) d_Mod_joinSheet_71 ⟨Nat.le_of_ble_eq_true rfl, Nat.le_of_ble_eq_true rfl⟩) hR hA (fun h15 H locs hw hR => ?_)
        try dsimp only at hw
        refine mx_aload_n (r := some v0) hx hb d_Mod_joinSheet_74 rfl (lv_at hl 1 rfl) ?_
        refine lv_iload hx hb d_Mod_joinSheet_75 (lv_at hl 0 rfl) ?_
        refine mx_aload_n (r := some v0) hx hb d_Mod_joinSheet_77 rfl (lv_at hl 1 rfl) ?_
        refine lv_iload_n hx hb d_Mod_joinSheet_78 rfl (lv_at hl 2 rfl) ?_
        refine mx_aload_n (r := some v0) hx hb d_Mod_joinSheet_79 rfl (lv_at hl 1 rfl) ?_
        obtain ⟨t17, hw⟩ := hw
        refine mx_get (ci := 8) (C := "NetJoinsModel") (T := F_Mod) (N := 33) hx hb hW hown hK.1 hR (a := v0) rfl t17 rfl i_Mod 13 2 (by decide) rfl kw_1148 (fun _ h9 => h9) d_Mod_joinSheet_80 ?_
        refine lv_iload_n hx hb d_Mod_joinSheet_83 rfl (lv_at hl 4 rfl) ?_
        obtain ⟨a18, ea18, t19, t19i, hw⟩ := hw
        refine mx_iald hx hb hK.1 hR (a := a18) ea18 t19 t19i d_Mod_joinSheet_84 ?_
        obtain ⟨t22, hw⟩ := hw
        refine mx_calli (va_runV (b := v0) (As := [.int x1, .int (gA h15 a18 x3.toNatClampNeg)]) (rest := [.int y7, va_rf (some v0)]) ⟨hx, hb, hml, hown, hW⟩ (mt_Mod_nameNode l D cs Z _ hw) (mx_cwV hW ok_Mod_nameNode kw_1288 rfl rfl ⟨Nat.le_of_ble_eq_true rfl, Nat.le_of_ble_eq_true rfl⟩) (mx_preV hK hZ hA hR (ci := 8) rfl t22) rfl rfl hl.1 rfl (lv_room (Nat.le_of_ble_eq_true rfl)) d_Mod_joinSheet_85 ⟨Nat.le_of_ble_eq_true rfl, Nat.le_of_ble_eq_true rfl⟩) hR hA (fun r20 h21 H locs hw hR => ?_)
        try dsimp only at hw
        obtain ⟨t25, hw⟩ := hw
        refine mx_callv (va_runV (b := v0) (As := [.int y7, .int r20]) (rest := []) ⟨hx, hb, hml, hown, hW⟩ (mt_Mod_join l D cs Z _ hw) (mx_cwV hW ok_Mod_join kw_1276 rfl rfl ⟨Nat.le_of_ble_eq_true rfl, Nat.le_of_ble_eq_true rfl⟩) (mx_preV hK hZ hA hR (ci := 8) rfl t25) rfl rfl hl.1 rfl (lv_room (Nat.le_of_ble_eq_true rfl)) d_Mod_joinSheet_88 ⟨Nat.le_of_ble_eq_true rfl, Nat.le_of_ble_eq_true rfl⟩) hR hA (fun h24 H locs hw hR => ?_)
        try dsimp only at hw
        exact mn_Mod_joinSheet_91 C post (lpF (wb_Mod_joinSheet_15 Z post v0) n) ih x1 x2 x3 _ _ _ _ hw (lv_sub hl [1, 2, 3, 4] rfl) hR
      · have hw := hw.2 c6
        refine lv_goto (tgt := 91) hx hb d_Mod_joinSheet_33 (by decide) ?_
        exact mn_Mod_joinSheet_91 C post (lpF (wb_Mod_joinSheet_15 Z post v0) n) ih x1 x2 x3 _ _ _ _ hw (lv_sub hl [0, 1, 2, 3] rfl) hR
set_option maxHeartbeats 4000000 in
set_option maxRecDepth 100000 in
theorem mt_Mod_joinSheet (l : Launch) (D : va_G) (cs : CS) (Z : Nat → Nat) (sz : Nat) {post : HS → Prop} {h : HS} {v0 : Nat} {x1 : Int32} (hw : wp_Mod_joinSheet Z post h v0 x1) : Met l y_Mod_joinSheet (Cond.code y_Mod_joinSheet c_Mod_joinSheet 5 none :: WA) ({ frames := 5, cells := 0, slots := 0, locals := 174 } : Room) (mPc D cs Z h sz [va_rf (some v0), .int x1]) (va_Qv post (mB D cs h sz) (fA h sz)) 0 0 (fA h sz) := by
  refine mx_met (fun sz => va_Qv post (mB D cs h sz) (fA h sz)) (by decide) (by simp [lg_sl, mx_rf_cat, cat_i, cat_l]) ?_
  intro p e s m args below meth c C hR ls hl
  have hl : lv_has ls 5 [(0, va_rf (some v0)), (1, .int x1)] := hl
  obtain ⟨hx, hb, hr, hml, hown, hW, hlocks, hnm, hK, hZ⟩ := id C
  have hown : s.vm.findClass "NetJoinsModel" = some m.cls := hown
  have hA : ∀ q, s.heap.size ≤ q → fA h s.heap.size q := fun _ h => Or.inr h
  unfold wp_Mod_joinSheet at hw
  refine mx_aload_n (r := some v0) hx hb d_Mod_joinSheet_0 rfl (lv_at hl 0 rfl) ?_
  obtain ⟨t1, hw⟩ := hw
  refine mx_get (ci := 8) (C := "NetJoinsModel") (T := F_Mod) (N := 33) hx hb hW hown hK.1 hR (a := v0) rfl t1 rfl i_Mod 3 2 (by decide) rfl kw_1138 (fun _ h9 => h9) d_Mod_joinSheet_1 ?_
  refine lv_iload_n hx hb d_Mod_joinSheet_4 rfl (lv_at hl 1 rfl) ?_
  obtain ⟨a2, ea2, t3, t3i, hw⟩ := hw
  refine mx_iald hx hb hK.1 hR (a := a2) ea2 t3 t3i d_Mod_joinSheet_5 ?_
  refine lv_topi (fun y4 ey4 => ?_)
  have hw := hw y4 ey4
  refine lv_istore_n (i := 2) (lv' := [(2, .int y4), (0, va_rf (some v0)), (1, .int x1)]) hx hb d_Mod_joinSheet_6 rfl hl (by decide) rfl (fun ls hl => ?_)
  refine mx_aload_n (r := some v0) hx hb d_Mod_joinSheet_7 rfl (lv_at hl 1 rfl) ?_
  refine lv_iload_n hx hb d_Mod_joinSheet_8 rfl (lv_at hl 2 rfl) ?_
  refine lv_iload_n hx hb d_Mod_joinSheet_9 rfl (lv_at hl 0 rfl) ?_
  obtain ⟨t7, hw⟩ := hw
  refine mx_callv (va_runV (b := v0) (As := [.int x1, .int y4]) (rest := []) ⟨hx, hb, hml, hown, hW⟩ (mt_Mod_joinWires l D cs Z _ hw) (mx_cwV hW ok_Mod_joinWires kw_1260 rfl rfl ⟨Nat.le_of_ble_eq_true rfl, Nat.le_of_ble_eq_true rfl⟩) (mx_preV hK hZ hA hR (ci := 8) rfl t7) rfl rfl hl.1 rfl (lv_room (Nat.le_of_ble_eq_true rfl)) d_Mod_joinSheet_10 ⟨Nat.le_of_ble_eq_true rfl, Nat.le_of_ble_eq_true rfl⟩) hR hA (fun h6 H locs hw hR => ?_)
  try dsimp only at hw
  refine lv_iconst (v := 0) hx hb d_Mod_joinSheet_13 (by decide) ?_
  refine lv_istore_n (i := 3) (lv' := [(3, .int (0 : Int32)), (2, .int y4), (0, va_rf (some v0)), (1, .int x1)]) hx hb d_Mod_joinSheet_14 rfl hl (by decide) rfl (fun ls hl => ?_)
  obtain ⟨n9, hw⟩ := hw
  exact mn_Mod_joinSheet_15 C post n9 x1 y4 (0 : Int32) _ _ _ _ hw (lv_sub hl [2, 3, 1, 0] rfl) hR
set_option maxHeartbeats 4000000 in
set_option maxRecDepth 100000 in
theorem mt_Mod_members (l : Launch) (D : va_G) (cs : CS) (Z : Nat → Nat) (sz : Nat) {post : Int32 → HS → Prop} {h : HS} {v0 : Nat} {x1 : Int32} (hw : wp_Mod_members Z post h v0 x1) : Met l y_Mod_members (Cond.code y_Mod_members c_Mod_members 3 (some .int) :: WA) ({ frames := 2, cells := 0, slots := 0, locals := 100 } : Room) (mPc D cs Z h sz [va_rf (some v0), .int x1]) (va_Qi post (mB D cs h sz) (fA h sz)) 0 0 (fA h sz) := by
  refine mx_met (fun sz => va_Qi post (mB D cs h sz) (fA h sz)) (by decide) (by simp [lg_sl, mx_rf_cat, cat_i, cat_l]) ?_
  intro p e s m args below meth c C hR ls hl
  have hl : lv_has ls 3 [(0, va_rf (some v0)), (1, .int x1)] := hl
  obtain ⟨hx, hb, hr, hml, hown, hW, hlocks, hnm, hK, hZ⟩ := id C
  have hown : s.vm.findClass "NetJoinsModel" = some m.cls := hown
  have hA : ∀ q, s.heap.size ≤ q → fA h s.heap.size q := fun _ h => Or.inr h
  unfold wp_Mod_members at hw
  refine mx_aload_n (r := some v0) hx hb d_Mod_members_0 rfl (lv_at hl 0 rfl) ?_
  obtain ⟨t1, hw⟩ := hw
  refine mx_get (ci := 8) (C := "NetJoinsModel") (T := F_Mod) (N := 33) hx hb hW hown hK.1 hR (a := v0) rfl t1 rfl i_Mod 23 2 (by decide) rfl kw_1158 (fun _ h9 => h9) d_Mod_members_1 ?_
  refine lv_iconst (v := 4) hx hb d_Mod_members_4 (by decide) ?_
  refine lv_iload_n hx hb d_Mod_members_5 rfl (lv_at hl 1 rfl) ?_
  refine lv_imul hx hb d_Mod_members_6 ?_
  refine lv_iconst (v := 3) hx hb d_Mod_members_7 (by decide) ?_
  refine lv_iadd hx hb d_Mod_members_8 ?_
  obtain ⟨a2, ea2, t3, t3i, hw⟩ := hw
  refine mx_iald hx hb hK.1 hR (a := a2) ea2 t3 t3i d_Mod_members_9 ?_
  refine mx_aload_n (r := some v0) hx hb d_Mod_members_10 rfl (lv_at hl 0 rfl) ?_
  obtain ⟨t4, hw⟩ := hw
  refine mx_get (ci := 8) (C := "NetJoinsModel") (T := F_Mod) (N := 33) hx hb hW hown hK.1 hR (a := v0) rfl t4 rfl i_Mod 23 2 (by decide) rfl kw_1158 (fun _ h9 => h9) d_Mod_members_11 ?_
  refine lv_iconst (v := 4) hx hb d_Mod_members_14 (by decide) ?_
  refine lv_iload_n hx hb d_Mod_members_15 rfl (lv_at hl 1 rfl) ?_
  refine lv_imul hx hb d_Mod_members_16 ?_
  refine lv_iconst (v := 2) hx hb d_Mod_members_17 (by decide) ?_
  refine lv_iadd hx hb d_Mod_members_18 ?_
  obtain ⟨a5, ea5, t6, t6i, hw⟩ := hw
  refine mx_iald hx hb hK.1 hR (a := a5) ea5 t6 t6i d_Mod_members_19 ?_
  refine lv_isub hx hb d_Mod_members_20 ?_
  refine lv_topi (fun y7 ey7 => ?_)
  have hw := hw y7 ey7
  refine lv_istore_n (i := 2) (lv' := [(2, .int y7), (0, va_rf (some v0)), (1, .int x1)]) hx hb d_Mod_members_21 rfl hl (by decide) rfl (fun ls hl => ?_)
  refine lv_iconst (v := 1) hx hb d_Mod_members_22 (by decide) ?_
  refine lv_iload_n hx hb d_Mod_members_23 rfl (lv_at hl 0 rfl) ?_
  refine lv_if_ge (tgt := 33) hx hb d_Mod_members_24 (by decide) (fun c8 => ?_) (fun c8 => ?_)
  · have hw := hw.1 c8
    refine lv_iload_n hx hb d_Mod_members_33 rfl (lv_at hl 0 rfl) ?_
    refine lv_iadd hx hb d_Mod_members_34 ?_
    exact mx_iret hx hb hr hlocks hR hw d_Mod_members_35
  · have hw := hw.2 c8
    refine lv_iconst (v := 0) hx hb d_Mod_members_27 (by decide) ?_
    refine lv_iload_n hx hb d_Mod_members_28 rfl (lv_at hl 0 rfl) ?_
    refine lv_isub hx hb d_Mod_members_29 ?_
    refine lv_goto (tgt := 34) hx hb d_Mod_members_30 (by decide) ?_
    refine lv_iadd hx hb d_Mod_members_34 ?_
    exact mx_iret hx hb hr hlocks hR hw d_Mod_members_35
set_option maxHeartbeats 4000000 in
set_option maxRecDepth 100000 in
theorem mt_Mod_member (l : Launch) (D : va_G) (cs : CS) (Z : Nat → Nat) (sz : Nat) {post : Int32 → HS → Prop} {h : HS} {v0 : Nat} {x1 : Int32} {x2 : Int32} (hw : wp_Mod_member Z post h v0 x1 x2) : Met l y_Mod_member (Cond.code y_Mod_member c_Mod_member 3 (some .int) :: WA) ({ frames := 2, cells := 0, slots := 0, locals := 100 } : Room) (mPc D cs Z h sz [va_rf (some v0), .int x1, .int x2]) (va_Qi post (mB D cs h sz) (fA h sz)) 0 0 (fA h sz) := by
  refine mx_met (fun sz => va_Qi post (mB D cs h sz) (fA h sz)) (by decide) (by simp [lg_sl, mx_rf_cat, cat_i, cat_l]) ?_
  intro p e s m args below meth c C hR ls hl
  have hl : lv_has ls 3 [(0, va_rf (some v0)), (1, .int x1), (2, .int x2)] := hl
  obtain ⟨hx, hb, hr, hml, hown, hW, hlocks, hnm, hK, hZ⟩ := id C
  have hown : s.vm.findClass "NetJoinsModel" = some m.cls := hown
  have hA : ∀ q, s.heap.size ≤ q → fA h s.heap.size q := fun _ h => Or.inr h
  unfold wp_Mod_member at hw
  refine mx_aload_n (r := some v0) hx hb d_Mod_member_0 rfl (lv_at hl 0 rfl) ?_
  obtain ⟨t1, hw⟩ := hw
  refine mx_get (ci := 8) (C := "NetJoinsModel") (T := F_Mod) (N := 33) hx hb hW hown hK.1 hR (a := v0) rfl t1 rfl i_Mod 23 2 (by decide) rfl kw_1158 (fun _ h9 => h9) d_Mod_member_1 ?_
  refine lv_iconst (v := 4) hx hb d_Mod_member_4 (by decide) ?_
  refine lv_iload_n hx hb d_Mod_member_5 rfl (lv_at hl 1 rfl) ?_
  refine lv_imul hx hb d_Mod_member_6 ?_
  refine lv_iconst (v := 3) hx hb d_Mod_member_7 (by decide) ?_
  refine lv_iadd hx hb d_Mod_member_8 ?_
  obtain ⟨a2, ea2, t3, t3i, hw⟩ := hw
  refine mx_iald hx hb hK.1 hR (a := a2) ea2 t3 t3i d_Mod_member_9 ?_
  refine mx_aload_n (r := some v0) hx hb d_Mod_member_10 rfl (lv_at hl 0 rfl) ?_
  obtain ⟨t4, hw⟩ := hw
  refine mx_get (ci := 8) (C := "NetJoinsModel") (T := F_Mod) (N := 33) hx hb hW hown hK.1 hR (a := v0) rfl t4 rfl i_Mod 23 2 (by decide) rfl kw_1158 (fun _ h9 => h9) d_Mod_member_11 ?_
  refine lv_iconst (v := 4) hx hb d_Mod_member_14 (by decide) ?_
  refine lv_iload_n hx hb d_Mod_member_15 rfl (lv_at hl 1 rfl) ?_
  refine lv_imul hx hb d_Mod_member_16 ?_
  refine lv_iconst (v := 2) hx hb d_Mod_member_17 (by decide) ?_
  refine lv_iadd hx hb d_Mod_member_18 ?_
  obtain ⟨a5, ea5, t6, t6i, hw⟩ := hw
  refine mx_iald hx hb hK.1 hR (a := a5) ea5 t6 t6i d_Mod_member_19 ?_
  refine lv_icmp_ge (tgt := 38) hx hb d_Mod_member_20 (by decide) (fun c7 => ?_) (fun c7 => ?_)
  · have hw := hw.1 c7
    refine mx_aload_n (r := some v0) hx hb d_Mod_member_38 rfl (lv_at hl 0 rfl) ?_
    obtain ⟨t8, hw⟩ := hw
    refine mx_get (ci := 8) (C := "NetJoinsModel") (T := F_Mod) (N := 33) hx hb hW hown hK.1 hR (a := v0) rfl t8 rfl i_Mod 23 2 (by decide) rfl kw_1158 (fun _ h9 => h9) d_Mod_member_39 ?_
    refine lv_iconst (v := 4) hx hb d_Mod_member_42 (by decide) ?_
    refine lv_iload_n hx hb d_Mod_member_43 rfl (lv_at hl 1 rfl) ?_
    refine lv_imul hx hb d_Mod_member_44 ?_
    refine lv_iconst (v := 2) hx hb d_Mod_member_45 (by decide) ?_
    refine lv_iadd hx hb d_Mod_member_46 ?_
    obtain ⟨a9, ea9, t10, t10i, hw⟩ := hw
    refine mx_iald hx hb hK.1 hR (a := a9) ea9 t10 t10i d_Mod_member_47 ?_
    refine lv_iload_n hx hb d_Mod_member_48 rfl (lv_at hl 2 rfl) ?_
    refine lv_iadd hx hb d_Mod_member_49 ?_
    exact mx_iret hx hb hr hlocks hR hw d_Mod_member_50
  · have hw := hw.2 c7
    refine mx_aload_n (r := some v0) hx hb d_Mod_member_23 rfl (lv_at hl 0 rfl) ?_
    obtain ⟨t11, hw⟩ := hw
    refine mx_get (ci := 8) (C := "NetJoinsModel") (T := F_Mod) (N := 33) hx hb hW hown hK.1 hR (a := v0) rfl t11 rfl i_Mod 23 2 (by decide) rfl kw_1158 (fun _ h9 => h9) d_Mod_member_24 ?_
    refine lv_iconst (v := 4) hx hb d_Mod_member_27 (by decide) ?_
    refine lv_iload_n hx hb d_Mod_member_28 rfl (lv_at hl 1 rfl) ?_
    refine lv_imul hx hb d_Mod_member_29 ?_
    refine lv_iconst (v := 2) hx hb d_Mod_member_30 (by decide) ?_
    refine lv_iadd hx hb d_Mod_member_31 ?_
    obtain ⟨a12, ea12, t13, t13i, hw⟩ := hw
    refine mx_iald hx hb hK.1 hR (a := a12) ea12 t13 t13i d_Mod_member_32 ?_
    refine lv_iload_n hx hb d_Mod_member_33 rfl (lv_at hl 2 rfl) ?_
    refine lv_isub hx hb d_Mod_member_34 ?_
    refine lv_goto (tgt := 50) hx hb d_Mod_member_35 (by decide) ?_
    exact mx_iret hx hb hr hlocks hR hw d_Mod_member_50
set_option maxHeartbeats 4000000 in
set_option maxRecDepth 100000 in
theorem mn_Mod_joinBuses_90 {D : va_G} {cs : CS} {Z : Nat → Nat} {h0 : HS} {p : Program} {l : Launch} {e : Env} {s : State} {m : MethodId} {args : Array Value} {below : List Frame} {meth : Method} {c : Code} {v0 : Nat} (C : mC D cs Z h0 y_Mod_joinBuses c_Mod_joinBuses 7 none p s m args meth c) (post : HS → Prop) : ∀ (n : Nat) (x1 : Int32) (x2 : Int32) (x3 : Int32) (x4 : Int32) (x5 : Int32) (x6 : Int32) (h : HS) (H : Heap) (locs : List Loc) (ls : Array Slot), lpF (wb_Mod_joinBuses_90 Z post v0) n (x1, x2, x3, x4, x5, x6, h) → lv_has ls 7 [(0, va_rf (some v0)), (1, .int x1), (2, .int x2), (3, .int x3), (4, .int x4), (5, .int x5), (6, .int x6)] → mR D cs (fA h0 s.heap.size) h s.heap H locs → W p l e ({ frames := 4, cells := 0, slots := 0, locals := 146 } : Room) s m args below meth c H locs 0 0 (MQ below (va_Qv post (mB D cs h0 s.heap.size) (fA h0 s.heap.size)) args s 0 0 (fA h0 s.heap.size)) (F0 m 90 ls []) := by
  obtain ⟨hx, hb, hr, hml, hown, hW, hlocks, hnm, hK, hZ⟩ := id C
  have hown : s.vm.findClass "NetJoinsModel" = some m.cls := hown
  have hA : ∀ q, s.heap.size ≤ q → fA h0 s.heap.size q := fun _ h => Or.inr h
  intro n
  induction n with
  | zero => intro x1 x2 x3 x4 x5 x6 h H locs ls hw; exact hw.elim
  | succ n ih =>
    intro x1 x2 x3 x4 x5 x6 h H locs ls hw hl hR
    have hw : wb_Mod_joinBuses_90 Z post v0 (lpF (wb_Mod_joinBuses_90 Z post v0) n) (x1, x2, x3, x4, x5, x6, h) := hw
    unfold wb_Mod_joinBuses_90 at hw
    dsimp only at hw
    refine lv_iload hx hb d_Mod_joinBuses_90 (lv_at hl 5 rfl) ?_
    refine lv_if_eq (tgt := 150) hx hb d_Mod_joinBuses_92 (by decide) (fun c1 => ?_) (fun c1 => ?_)
    · have hw := hw.1 c1
      exact mx_vret hx hb hr hlocks hR hw d_Mod_joinBuses_150
    · have hw := hw.2 c1
      refine lv_iload hx hb d_Mod_joinBuses_95 (lv_at hl 6 rfl) ?_
      refine mx_aload_n (r := some v0) hx hb d_Mod_joinBuses_97 rfl (lv_at hl 0 rfl) ?_
      refine lv_iload_n hx hb d_Mod_joinBuses_98 rfl (lv_at hl 1 rfl) ?_
      obtain ⟨t4, hw⟩ := hw
      refine mx_calli (va_runV (b := v0) (As := [.int x1]) (rest := [.int x6]) ⟨hx, hb, hml, hown, hW⟩ (mt_Mod_members l D cs Z _ hw) (mx_cwV hW ok_Mod_members kw_1296 rfl rfl ⟨Nat.le_of_ble_eq_true rfl, Nat.le_of_ble_eq_true rfl⟩) (mx_preV hK hZ hA hR (ci := 8) rfl t4) rfl rfl hl.1 rfl (lv_room (Nat.le_of_ble_eq_true rfl)) d_Mod_joinBuses_99 ⟨Nat.le_of_ble_eq_true rfl, Nat.le_of_ble_eq_true rfl⟩) hR hA (fun r2 h3 H locs hw hR => ?_)
      try dsimp only at hw
      refine lv_icmp_ge (tgt := 150) hx hb d_Mod_joinBuses_102 (by decide) (fun c5 => ?_) (fun c5 => ?_)
      · have hw := hw.1 c5
        exact mx_vret hx hb hr hlocks hR hw d_Mod_joinBuses_150
      · have hw := hw.2 c5
        refine lv_iload hx hb d_Mod_joinBuses_105 (lv_at hl 6 rfl) ?_
        refine mx_aload_n (r := some v0) hx hb d_Mod_joinBuses_107 rfl (lv_at hl 0 rfl) ?_
        refine lv_iload_n hx hb d_Mod_joinBuses_108 rfl (lv_at hl 3 rfl) ?_
        obtain ⟨t8, hw⟩ := hw
        refine mx_calli (va_runV (b := v0) (As := [.int x3]) (rest := [.int x6]) ⟨hx, hb, hml, hown, hW⟩ (mt_Mod_members l D cs Z _ hw) (mx_cwV hW ok_Mod_members kw_1296 rfl rfl ⟨Nat.le_of_ble_eq_true rfl, Nat.le_of_ble_eq_true rfl⟩) (mx_preV hK hZ hA hR (ci := 8) rfl t8) rfl rfl hl.1 rfl (lv_room (Nat.le_of_ble_eq_true rfl)) d_Mod_joinBuses_109 ⟨Nat.le_of_ble_eq_true rfl, Nat.le_of_ble_eq_true rfl⟩) hR hA (fun r6 h7 H locs hw hR => ?_)
        try dsimp only at hw
        refine lv_icmp_ge (tgt := 150) hx hb d_Mod_joinBuses_112 (by decide) (fun c9 => ?_) (fun c9 => ?_)
        · have hw := hw.1 c9
          exact mx_vret hx hb hr hlocks hR hw d_Mod_joinBuses_150
        · have hw := hw.2 c9
          refine mx_aload_n (r := some v0) hx hb d_Mod_joinBuses_115 rfl (lv_at hl 0 rfl) ?_
          refine mx_aload_n (r := some v0) hx hb d_Mod_joinBuses_116 rfl (lv_at hl 0 rfl) ?_
          refine lv_iload_n hx hb d_Mod_joinBuses_117 rfl (lv_at hl 2 rfl) ?_
          refine mx_aload_n (r := some v0) hx hb d_Mod_joinBuses_118 rfl (lv_at hl 0 rfl) ?_
          refine lv_iload_n hx hb d_Mod_joinBuses_119 rfl (lv_at hl 1 rfl) ?_
          refine lv_iload hx hb d_Mod_joinBuses_120 (lv_at hl 6 rfl) ?_
          obtain ⟨t12, hw⟩ := hw
          refine mx_calli (va_runV (b := v0) (As := [.int x1, .int x6]) (rest := [.int x2, va_rf (some v0), va_rf (some v0)]) ⟨hx, hb, hml, hown, hW⟩ (mt_Mod_member l D cs Z _ hw) (mx_cwV hW ok_Mod_member kw_1300 rfl rfl ⟨Nat.le_of_ble_eq_true rfl, Nat.le_of_ble_eq_true rfl⟩) (mx_preV hK hZ hA hR (ci := 8) rfl t12) rfl rfl hl.1 rfl (lv_room (Nat.le_of_ble_eq_true rfl)) d_Mod_joinBuses_122 ⟨Nat.le_of_ble_eq_true rfl, Nat.le_of_ble_eq_true rfl⟩) hR hA (fun r10 h11 H locs hw hR => ?_)
          try dsimp only at hw
          obtain ⟨t15, hw⟩ := hw
          refine mx_calli (va_runV (b := v0) (As := [.int x2, .int r10]) (rest := [va_rf (some v0)]) ⟨hx, hb, hml, hown, hW⟩ (mt_Mod_nameNode l D cs Z _ hw) (mx_cwV hW ok_Mod_nameNode kw_1288 rfl rfl ⟨Nat.le_of_ble_eq_true rfl, Nat.le_of_ble_eq_true rfl⟩) (mx_preV hK hZ hA hR (ci := 8) rfl t15) rfl rfl hl.1 rfl (lv_room (Nat.le_of_ble_eq_true rfl)) d_Mod_joinBuses_125 ⟨Nat.le_of_ble_eq_true rfl, Nat.le_of_ble_eq_true rfl⟩) hR hA (fun r13 h14 H locs hw hR => ?_)
          try dsimp only at hw
          refine mx_aload_n (r := some v0) hx hb d_Mod_joinBuses_128 rfl (lv_at hl 0 rfl) ?_
          refine lv_iload hx hb d_Mod_joinBuses_129 (lv_at hl 4 rfl) ?_
          refine mx_aload_n (r := some v0) hx hb d_Mod_joinBuses_131 rfl (lv_at hl 0 rfl) ?_
          refine lv_iload_n hx hb d_Mod_joinBuses_132 rfl (lv_at hl 3 rfl) ?_
          refine lv_iload hx hb d_Mod_joinBuses_133 (lv_at hl 6 rfl) ?_
          obtain ⟨t18, hw⟩ := hw
          refine mx_calli (va_runV (b := v0) (As := [.int x3, .int x6]) (rest := [.int x4, va_rf (some v0), .int r13, va_rf (some v0)]) ⟨hx, hb, hml, hown, hW⟩ (mt_Mod_member l D cs Z _ hw) (mx_cwV hW ok_Mod_member kw_1300 rfl rfl ⟨Nat.le_of_ble_eq_true rfl, Nat.le_of_ble_eq_true rfl⟩) (mx_preV hK hZ hA hR (ci := 8) rfl t18) rfl rfl hl.1 rfl (lv_room (Nat.le_of_ble_eq_true rfl)) d_Mod_joinBuses_135 ⟨Nat.le_of_ble_eq_true rfl, Nat.le_of_ble_eq_true rfl⟩) hR hA (fun r16 h17 H locs hw hR => ?_)
          try dsimp only at hw
          obtain ⟨t21, hw⟩ := hw
          refine mx_calli (va_runV (b := v0) (As := [.int x4, .int r16]) (rest := [.int r13, va_rf (some v0)]) ⟨hx, hb, hml, hown, hW⟩ (mt_Mod_nameNode l D cs Z _ hw) (mx_cwV hW ok_Mod_nameNode kw_1288 rfl rfl ⟨Nat.le_of_ble_eq_true rfl, Nat.le_of_ble_eq_true rfl⟩) (mx_preV hK hZ hA hR (ci := 8) rfl t21) rfl rfl hl.1 rfl (lv_room (Nat.le_of_ble_eq_true rfl)) d_Mod_joinBuses_138 ⟨Nat.le_of_ble_eq_true rfl, Nat.le_of_ble_eq_true rfl⟩) hR hA (fun r19 h20 H locs hw hR => ?_)
          try dsimp only at hw
          obtain ⟨t24, hw⟩ := hw
          refine mx_callv (va_runV (b := v0) (As := [.int r13, .int r19]) (rest := []) ⟨hx, hb, hml, hown, hW⟩ (mt_Mod_join l D cs Z _ hw) (mx_cwV hW ok_Mod_join kw_1276 rfl rfl ⟨Nat.le_of_ble_eq_true rfl, Nat.le_of_ble_eq_true rfl⟩) (mx_preV hK hZ hA hR (ci := 8) rfl t24) rfl rfl hl.1 rfl (lv_room (Nat.le_of_ble_eq_true rfl)) d_Mod_joinBuses_141 ⟨Nat.le_of_ble_eq_true rfl, Nat.le_of_ble_eq_true rfl⟩) hR hA (fun h23 H locs hw hR => ?_)
          try dsimp only at hw
          obtain ⟨y25, ey25⟩ : ∃ y : Int32, y = x6 + (1 : Int32) := ⟨_, rfl⟩
          have hw := hw y25 ey25
          refine lv_iinc (v := y25) (lv' := [(6, .int y25), (0, va_rf (some v0)), (1, .int x1), (2, .int x2), (3, .int x3), (4, .int x4), (5, .int x5)]) hx hb d_Mod_joinBuses_144 hl (k := 6) rfl (by rw [ey25]; rfl) (by decide) rfl (fun ls hl => ?_)
          refine lv_goto (tgt := 90) hx hb d_Mod_joinBuses_147 (by decide) ?_
          exact ih x1 x2 x3 x4 x5 y25 _ _ _ _ hw (lv_sub hl [1, 2, 3, 4, 5, 6, 0] rfl) hR
set_option maxHeartbeats 4000000 in
set_option maxRecDepth 100000 in
theorem mn_Mod_joinBuses_85 {D : va_G} {cs : CS} {Z : Nat → Nat} {h0 : HS} {p : Program} {l : Launch} {e : Env} {s : State} {m : MethodId} {args : Array Value} {below : List Frame} {meth : Method} {c : Code} {v0 : Nat} (C : mC D cs Z h0 y_Mod_joinBuses c_Mod_joinBuses 7 none p s m args meth c) (post : HS → Prop) : ∀ (x1 : Int32) (x2 : Int32) (x3 : Int32) (x4 : Int32) (s0 : Int32) (h : HS) (H : Heap) (locs : List Loc) (ls : Array Slot), wj_Mod_joinBuses_85 Z post v0 x1 x2 x3 x4 s0 h → lv_has ls 7 [(0, va_rf (some v0)), (1, .int x1), (2, .int x2), (3, .int x3), (4, .int x4)] → mR D cs (fA h0 s.heap.size) h s.heap H locs → W p l e ({ frames := 4, cells := 0, slots := 0, locals := 146 } : Room) s m args below meth c H locs 0 0 (MQ below (va_Qv post (mB D cs h0 s.heap.size) (fA h0 s.heap.size)) args s 0 0 (fA h0 s.heap.size)) (F0 m 85 ls [.int s0]) := by
  obtain ⟨hx, hb, hr, hml, hown, hW, hlocks, hnm, hK, hZ⟩ := id C
  have hown : s.vm.findClass "NetJoinsModel" = some m.cls := hown
  have hA : ∀ q, s.heap.size ≤ q → fA h0 s.heap.size q := fun _ h => Or.inr h
  intro x1 x2 x3 x4 s0 h H locs ls hw hl hR
  unfold wj_Mod_joinBuses_85 at hw
  refine lv_istore (i := 5) (lv' := [(5, .int s0), (0, va_rf (some v0)), (1, .int x1), (2, .int x2), (3, .int x3), (4, .int x4)]) hx hb d_Mod_joinBuses_85 hl (by decide) rfl (fun ls hl => ?_)
  refine lv_iconst (v := 0) hx hb d_Mod_joinBuses_87 (by decide) ?_
  refine lv_istore (i := 6) (lv' := [(6, .int (0 : Int32)), (5, .int s0), (0, va_rf (some v0)), (1, .int x1), (2, .int x2), (3, .int x3), (4, .int x4)]) hx hb d_Mod_joinBuses_88 hl (by decide) rfl (fun ls hl => ?_)
  obtain ⟨n9, hw⟩ := hw
  exact mn_Mod_joinBuses_90 C post n9 x1 x2 x3 x4 s0 (0 : Int32) _ _ _ _ hw (lv_sub hl [2, 3, 4, 5, 6, 1, 0] rfl) hR
set_option maxHeartbeats 4000000 in
set_option maxRecDepth 100000 in
theorem mn_Mod_joinBuses_84 {D : va_G} {cs : CS} {Z : Nat → Nat} {h0 : HS} {p : Program} {l : Launch} {e : Env} {s : State} {m : MethodId} {args : Array Value} {below : List Frame} {meth : Method} {c : Code} {v0 : Nat} (C : mC D cs Z h0 y_Mod_joinBuses c_Mod_joinBuses 7 none p s m args meth c) (post : HS → Prop) : ∀ (x1 : Int32) (x2 : Int32) (x3 : Int32) (x4 : Int32) (h : HS) (H : Heap) (locs : List Loc) (ls : Array Slot), wj_Mod_joinBuses_84 Z post v0 x1 x2 x3 x4 h → lv_has ls 7 [(0, va_rf (some v0)), (1, .int x1), (2, .int x2), (3, .int x3), (4, .int x4)] → mR D cs (fA h0 s.heap.size) h s.heap H locs → W p l e ({ frames := 4, cells := 0, slots := 0, locals := 146 } : Room) s m args below meth c H locs 0 0 (MQ below (va_Qv post (mB D cs h0 s.heap.size) (fA h0 s.heap.size)) args s 0 0 (fA h0 s.heap.size)) (F0 m 84 ls []) := by
  obtain ⟨hx, hb, hr, hml, hown, hW, hlocks, hnm, hK, hZ⟩ := id C
  have hown : s.vm.findClass "NetJoinsModel" = some m.cls := hown
  have hA : ∀ q, s.heap.size ≤ q → fA h0 s.heap.size q := fun _ h => Or.inr h
  intro x1 x2 x3 x4 h H locs ls hw hl hR
  unfold wj_Mod_joinBuses_84 at hw
  refine lv_iconst (v := 0) hx hb d_Mod_joinBuses_84 (by decide) ?_
  exact mn_Mod_joinBuses_85 C post x1 x2 x3 x4 (0 : Int32) _ _ _ _ hw (lv_sub hl [0, 1, 2, 3, 4] rfl) hR
set_option maxHeartbeats 4000000 in
set_option maxRecDepth 100000 in
theorem mn_Mod_joinBuses_80 {D : va_G} {cs : CS} {Z : Nat → Nat} {h0 : HS} {p : Program} {l : Launch} {e : Env} {s : State} {m : MethodId} {args : Array Value} {below : List Frame} {meth : Method} {c : Code} {v0 : Nat} (C : mC D cs Z h0 y_Mod_joinBuses c_Mod_joinBuses 7 none p s m args meth c) (post : HS → Prop) : ∀ (x1 : Int32) (x2 : Int32) (x3 : Int32) (x4 : Int32) (h : HS) (H : Heap) (locs : List Loc) (ls : Array Slot), wj_Mod_joinBuses_80 Z post v0 x1 x2 x3 x4 h → lv_has ls 7 [(0, va_rf (some v0)), (1, .int x1), (2, .int x2), (3, .int x3), (4, .int x4)] → mR D cs (fA h0 s.heap.size) h s.heap H locs → W p l e ({ frames := 4, cells := 0, slots := 0, locals := 146 } : Room) s m args below meth c H locs 0 0 (MQ below (va_Qv post (mB D cs h0 s.heap.size) (fA h0 s.heap.size)) args s 0 0 (fA h0 s.heap.size)) (F0 m 80 ls []) := by
  obtain ⟨hx, hb, hr, hml, hown, hW, hlocks, hnm, hK, hZ⟩ := id C
  have hown : s.vm.findClass "NetJoinsModel" = some m.cls := hown
  have hA : ∀ q, s.heap.size ≤ q → fA h0 s.heap.size q := fun _ h => Or.inr h
  intro x1 x2 x3 x4 h H locs ls hw hl hR
  unfold wj_Mod_joinBuses_80 at hw
  refine lv_iconst (v := 1) hx hb d_Mod_joinBuses_80 (by decide) ?_
  refine lv_goto (tgt := 85) hx hb d_Mod_joinBuses_81 (by decide) ?_
  exact mn_Mod_joinBuses_85 C post x1 x2 x3 x4 (1 : Int32) _ _ _ _ hw (lv_sub hl [0, 1, 2, 3, 4] rfl) hR
set_option maxHeartbeats 4000000 in
set_option maxRecDepth 100000 in
theorem mt_Mod_joinBuses (l : Launch) (D : va_G) (cs : CS) (Z : Nat → Nat) (sz : Nat) {post : HS → Prop} {h : HS} {v0 : Nat} {x1 : Int32} {x2 : Int32} {x3 : Int32} {x4 : Int32} (hw : wp_Mod_joinBuses Z post h v0 x1 x2 x3 x4) : Met l y_Mod_joinBuses (Cond.code y_Mod_joinBuses c_Mod_joinBuses 7 none :: WA) ({ frames := 4, cells := 0, slots := 0, locals := 146 } : Room) (mPc D cs Z h sz [va_rf (some v0), .int x1, .int x2, .int x3, .int x4]) (va_Qv post (mB D cs h sz) (fA h sz)) 0 0 (fA h sz) := by
  refine mx_met (fun sz => va_Qv post (mB D cs h sz) (fA h sz)) (by decide) (by simp [lg_sl, mx_rf_cat, cat_i, cat_l]) ?_
  intro p e s m args below meth c C hR ls hl
  have hl : lv_has ls 7 [(0, va_rf (some v0)), (1, .int x1), (2, .int x2), (3, .int x3), (4, .int x4)] := hl
  obtain ⟨hx, hb, hr, hml, hown, hW, hlocks, hnm, hK, hZ⟩ := id C
  have hown : s.vm.findClass "NetJoinsModel" = some m.cls := hown
  have hA : ∀ q, s.heap.size ≤ q → fA h s.heap.size q := fun _ h => Or.inr h
  unfold wp_Mod_joinBuses at hw
  refine mx_aload_n (r := some v0) hx hb d_Mod_joinBuses_0 rfl (lv_at hl 0 rfl) ?_
  obtain ⟨t1, hw⟩ := hw
  refine mx_get (ci := 8) (C := "NetJoinsModel") (T := F_Mod) (N := 33) hx hb hW hown hK.1 hR (a := v0) rfl t1 rfl i_Mod 3 2 (by decide) rfl kw_1138 (fun _ h9 => h9) d_Mod_joinBuses_1 ?_
  refine lv_iload_n hx hb d_Mod_joinBuses_4 rfl (lv_at hl 2 rfl) ?_
  obtain ⟨a2, ea2, t3, t3i, hw⟩ := hw
  refine mx_iald hx hb hK.1 hR (a := a2) ea2 t3 t3i d_Mod_joinBuses_5 ?_
  refine mx_aload_n (r := some v0) hx hb d_Mod_joinBuses_6 rfl (lv_at hl 0 rfl) ?_
  obtain ⟨t4, hw⟩ := hw
  refine mx_get (ci := 8) (C := "NetJoinsModel") (T := F_Mod) (N := 33) hx hb hW hown hK.1 hR (a := v0) rfl t4 rfl i_Mod 23 2 (by decide) rfl kw_1158 (fun _ h9 => h9) d_Mod_joinBuses_7 ?_
  refine lv_iconst (v := 4) hx hb d_Mod_joinBuses_10 (by decide) ?_
  refine lv_iload_n hx hb d_Mod_joinBuses_11 rfl (lv_at hl 1 rfl) ?_
  refine lv_imul hx hb d_Mod_joinBuses_12 ?_
  obtain ⟨a5, ea5, t6, t6i, hw⟩ := hw
  refine mx_iald hx hb hK.1 hR (a := a5) ea5 t6 t6i d_Mod_joinBuses_13 ?_
  refine lv_icmp_ne (tgt := 84) hx hb d_Mod_joinBuses_14 (by decide) (fun c7 => ?_) (fun c7 => ?_)
  · have hw := hw.1 c7
    exact mn_Mod_joinBuses_84 C post x1 x2 x3 x4 _ _ _ _ hw (lv_sub hl [0, 1, 2, 3, 4] rfl) hR
  · have hw := hw.2 c7
    refine mx_aload_n (r := some v0) hx hb d_Mod_joinBuses_17 rfl (lv_at hl 0 rfl) ?_
    obtain ⟨t8, hw⟩ := hw
    refine mx_get (ci := 8) (C := "NetJoinsModel") (T := F_Mod) (N := 33) hx hb hW hown hK.1 hR (a := v0) rfl t8 rfl i_Mod 3 2 (by decide) rfl kw_1138 (fun _ h9 => h9) d_Mod_joinBuses_18 ?_
    refine lv_iload hx hb d_Mod_joinBuses_21 (lv_at hl 4 rfl) ?_
    obtain ⟨a9, ea9, t10, t10i, hw⟩ := hw
    refine mx_iald hx hb hK.1 hR (a := a9) ea9 t10 t10i d_Mod_joinBuses_23 ?_
    refine mx_aload_n (r := some v0) hx hb d_Mod_joinBuses_24 rfl (lv_at hl 0 rfl) ?_
    obtain ⟨t11, hw⟩ := hw
    refine mx_get (ci := 8) (C := "NetJoinsModel") (T := F_Mod) (N := 33) hx hb hW hown hK.1 hR (a := v0) rfl t11 rfl i_Mod 23 2 (by decide) rfl kw_1158 (fun _ h9 => h9) d_Mod_joinBuses_25 ?_
    refine lv_iconst (v := 4) hx hb d_Mod_joinBuses_28 (by decide) ?_
    refine lv_iload_n hx hb d_Mod_joinBuses_29 rfl (lv_at hl 3 rfl) ?_
    refine lv_imul hx hb d_Mod_joinBuses_30 ?_
    obtain ⟨a12, ea12, t13, t13i, hw⟩ := hw
    refine mx_iald hx hb hK.1 hR (a := a12) ea12 t13 t13i d_Mod_joinBuses_31 ?_
    refine lv_icmp_ne (tgt := 84) hx hb d_Mod_joinBuses_32 (by decide) (fun c14 => ?_) (fun c14 => ?_)
    · have hw := hw.1 c14
      exact mn_Mod_joinBuses_84 C post x1 x2 x3 x4 _ _ _ _ hw (lv_sub hl [0, 1, 2, 3, 4] rfl) hR
    · have hw := hw.2 c14
      refine mx_aload_n (r := some v0) hx hb d_Mod_joinBuses_35 rfl (lv_at hl 0 rfl) ?_
      obtain ⟨t15, hw⟩ := hw
      refine mx_get (ci := 8) (C := "NetJoinsModel") (T := F_Mod) (N := 33) hx hb hW hown hK.1 hR (a := v0) rfl t15 rfl i_Mod 23 2 (by decide) rfl kw_1158 (fun _ h9 => h9) d_Mod_joinBuses_36 ?_
      refine lv_iconst (v := 4) hx hb d_Mod_joinBuses_39 (by decide) ?_
      refine lv_iload_n hx hb d_Mod_joinBuses_40 rfl (lv_at hl 1 rfl) ?_
      refine lv_imul hx hb d_Mod_joinBuses_41 ?_
      refine lv_iconst (v := 1) hx hb d_Mod_joinBuses_42 (by decide) ?_
      refine lv_iadd hx hb d_Mod_joinBuses_43 ?_
      obtain ⟨a16, ea16, t17, t17i, hw⟩ := hw
      refine mx_iald hx hb hK.1 hR (a := a16) ea16 t17 t17i d_Mod_joinBuses_44 ?_
      refine mx_aload_n (r := some v0) hx hb d_Mod_joinBuses_45 rfl (lv_at hl 0 rfl) ?_
      obtain ⟨t18, hw⟩ := hw
      refine mx_get (ci := 8) (C := "NetJoinsModel") (T := F_Mod) (N := 33) hx hb hW hown hK.1 hR (a := v0) rfl t18 rfl i_Mod 23 2 (by decide) rfl kw_1158 (fun _ h9 => h9) d_Mod_joinBuses_46 ?_
      refine lv_iconst (v := 4) hx hb d_Mod_joinBuses_49 (by decide) ?_
      refine lv_iload_n hx hb d_Mod_joinBuses_50 rfl (lv_at hl 3 rfl) ?_
      refine lv_imul hx hb d_Mod_joinBuses_51 ?_
      refine lv_iconst (v := 1) hx hb d_Mod_joinBuses_52 (by decide) ?_
      refine lv_iadd hx hb d_Mod_joinBuses_53 ?_
      obtain ⟨a19, ea19, t20, t20i, hw⟩ := hw
      refine mx_iald hx hb hK.1 hR (a := a19) ea19 t20 t20i d_Mod_joinBuses_54 ?_
      refine lv_icmp_ne (tgt := 84) hx hb d_Mod_joinBuses_55 (by decide) (fun c21 => ?_) (fun c21 => ?_)
      · have hw := hw.1 c21
        exact mn_Mod_joinBuses_84 C post x1 x2 x3 x4 _ _ _ _ hw (lv_sub hl [0, 1, 2, 3, 4] rfl) hR
      · have hw := hw.2 c21
        refine lv_iload_n hx hb d_Mod_joinBuses_58 rfl (lv_at hl 2 rfl) ?_
        refine lv_iload hx hb d_Mod_joinBuses_59 (lv_at hl 4 rfl) ?_
        refine lv_icmp_eq (tgt := 80) hx hb d_Mod_joinBuses_61 (by decide) (fun c22 => ?_) (fun c22 => ?_)
        · have hw := hw.1 c22
          exact mn_Mod_joinBuses_80 C post x1 x2 x3 x4 _ _ _ _ hw (lv_sub hl [0, 1, 2, 3, 4] rfl) hR
        · have hw := hw.2 c22
          refine mx_aload_n (r := some v0) hx hb d_Mod_joinBuses_64 rfl (lv_at hl 0 rfl) ?_
          obtain ⟨t23, hw⟩ := hw
          refine mx_get (ci := 8) (C := "NetJoinsModel") (T := F_Mod) (N := 33) hx hb hW hown hK.1 hR (a := v0) rfl t23 rfl i_Mod 23 2 (by decide) rfl kw_1158 (fun _ h9 => h9) d_Mod_joinBuses_65 ?_
          refine lv_iconst (v := 4) hx hb d_Mod_joinBuses_68 (by decide) ?_
          refine lv_iload_n hx hb d_Mod_joinBuses_69 rfl (lv_at hl 1 rfl) ?_
          refine lv_imul hx hb d_Mod_joinBuses_70 ?_
          refine lv_iconst (v := 1) hx hb d_Mod_joinBuses_71 (by decide) ?_
          refine lv_iadd hx hb d_Mod_joinBuses_72 ?_
          obtain ⟨a24, ea24, t25, t25i, hw⟩ := hw
          refine mx_iald hx hb hK.1 hR (a := a24) ea24 t25 t25i d_Mod_joinBuses_73 ?_
          refine lv_sipush (v := 900) hx hb d_Mod_joinBuses_74 (by decide) ?_
          refine lv_icmp_lt (tgt := 84) hx hb d_Mod_joinBuses_77 (by decide) (fun c26 => ?_) (fun c26 => ?_)
          · have hw := hw.1 c26
            exact mn_Mod_joinBuses_84 C post x1 x2 x3 x4 _ _ _ _ hw (lv_sub hl [0, 1, 2, 3, 4] rfl) hR
          · have hw := hw.2 c26
            exact mn_Mod_joinBuses_80 C post x1 x2 x3 x4 _ _ _ _ hw (lv_sub hl [0, 1, 2, 3, 4] rfl) hR
set_option maxHeartbeats 4000000 in
set_option maxRecDepth 100000 in
theorem mn_Mod_joinAll_104 {D : va_G} {cs : CS} {Z : Nat → Nat} {h0 : HS} {p : Program} {l : Launch} {e : Env} {s : State} {m : MethodId} {args : Array Value} {below : List Frame} {meth : Method} {c : Code} {v0 : Nat} (C : mC D cs Z h0 y_Mod_joinAll c_Mod_joinAll 5 none p s m args meth c) (post : HS → Prop) : ∀ (n : Nat) (x1 : Int32) (h : HS) (H : Heap) (locs : List Loc) (ls : Array Slot), lpF (wb_Mod_joinAll_104 Z post v0) n (x1, h) → lv_has ls 5 [(0, va_rf (some v0)), (1, .int x1)] → mR D cs (fA h0 s.heap.size) h s.heap H locs → W p l e ({ frames := 6, cells := 0, slots := 0, locals := 198 } : Room) s m args below meth c H locs 0 0 (MQ below (va_Qv post (mB D cs h0 s.heap.size) (fA h0 s.heap.size)) args s 0 0 (fA h0 s.heap.size)) (F0 m 104 ls []) := by
  obtain ⟨hx, hb, hr, hml, hown, hW, hlocks, hnm, hK, hZ⟩ := id C
  have hown : s.vm.findClass "NetJoinsModel" = some m.cls := hown
  have hA : ∀ q, s.heap.size ≤ q → fA h0 s.heap.size q := fun _ h => Or.inr h
  intro n
  induction n with
  | zero => intro x1 h H locs ls hw; exact hw.elim
  | succ n ih =>
    intro x1 h H locs ls hw hl hR
    have hw : wb_Mod_joinAll_104 Z post v0 (lpF (wb_Mod_joinAll_104 Z post v0) n) (x1, h) := hw
    unfold wb_Mod_joinAll_104 at hw
    dsimp only at hw
    refine lv_iload_n hx hb d_Mod_joinAll_104 rfl (lv_at hl 1 rfl) ?_
    refine mx_aload_n (r := some v0) hx hb d_Mod_joinAll_105 rfl (lv_at hl 0 rfl) ?_
    obtain ⟨t1, hw⟩ := hw
    refine mx_get (ci := 8) (C := "NetJoinsModel") (T := F_Mod) (N := 33) hx hb hW hown hK.1 hR (a := v0) rfl t1 rfl i_Mod 20 0 (by decide) rfl kw_1155 (fun _ h9 => h9) d_Mod_joinAll_106 ?_
    refine lv_icmp_ge (tgt := 170) hx hb d_Mod_joinAll_109 (by decide) (fun c2 => ?_) (fun c2 => ?_)
    · have hw := hw.1 c2
      exact mx_vret hx hb hr hlocks hR hw d_Mod_joinAll_170
    · have hw := hw.2 c2
      refine mx_aload_n (r := some v0) hx hb d_Mod_joinAll_112 rfl (lv_at hl 0 rfl) ?_
      obtain ⟨t3, hw⟩ := hw
      refine mx_get (ci := 8) (C := "NetJoinsModel") (T := F_Mod) (N := 33) hx hb hW hown hK.1 hR (a := v0) rfl t3 rfl i_Mod 21 2 (by decide) rfl kw_1156 (fun _ h9 => h9) d_Mod_joinAll_113 ?_
      refine lv_iconst (v := 3) hx hb d_Mod_joinAll_116 (by decide) ?_
      refine lv_iload_n hx hb d_Mod_joinAll_117 rfl (lv_at hl 1 rfl) ?_
      refine lv_imul hx hb d_Mod_joinAll_118 ?_
      obtain ⟨a4, ea4, t5, t5i, hw⟩ := hw
      refine mx_iald hx hb hK.1 hR (a := a4) ea4 t5 t5i d_Mod_joinAll_119 ?_
      refine lv_topi (fun y6 ey6 => ?_)
      have hw := hw y6 ey6
      refine lv_istore_n (i := 2) (lv' := [(2, .int y6), (0, va_rf (some v0)), (1, .int x1)]) hx hb d_Mod_joinAll_120 rfl hl (by decide) rfl (fun ls hl => ?_)
      refine mx_aload_n (r := some v0) hx hb d_Mod_joinAll_121 rfl (lv_at hl 1 rfl) ?_
      refine lv_sipush (v := 1600) hx hb d_Mod_joinAll_122 (by decide) ?_
      refine lv_bipush (v := 16) hx hb d_Mod_joinAll_125 (by decide) ?_
      refine mx_aload_n (r := some v0) hx hb d_Mod_joinAll_127 rfl (lv_at hl 1 rfl) ?_
      obtain ⟨t7, hw⟩ := hw
      refine mx_get (ci := 8) (C := "NetJoinsModel") (T := F_Mod) (N := 33) hx hb hW hown hK.1 hR (a := v0) rfl t7 rfl i_Mod 21 2 (by decide) rfl kw_1156 (fun _ h9 => h9) d_Mod_joinAll_128 ?_
      refine lv_iconst (v := 3) hx hb d_Mod_joinAll_131 (by decide) ?_
      refine lv_iload_n hx hb d_Mod_joinAll_132 rfl (lv_at hl 2 rfl) ?_
      refine lv_imul hx hb d_Mod_joinAll_133 ?_
      refine lv_iconst (v := 1) hx hb d_Mod_joinAll_134 (by decide) ?_
      refine lv_iadd hx hb d_Mod_joinAll_135 ?_
      obtain ⟨a8, ea8, t9, t9i, hw⟩ := hw
      refine mx_iald hx hb hK.1 hR (a := a8) ea8 t9 t9i d_Mod_joinAll_136 ?_
      refine lv_imul hx hb d_Mod_joinAll_137 ?_
      refine lv_iadd hx hb d_Mod_joinAll_138 ?_
      refine lv_iload_n hx hb d_Mod_joinAll_139 rfl (lv_at hl 0 rfl) ?_
      refine lv_iadd hx hb d_Mod_joinAll_140 ?_
      refine mx_aload_n (r := some v0) hx hb d_Mod_joinAll_141 rfl (lv_at hl 1 rfl) ?_
      refine mx_aload_n (r := some v0) hx hb d_Mod_joinAll_142 rfl (lv_at hl 1 rfl) ?_
      obtain ⟨t10, hw⟩ := hw
      refine mx_get (ci := 8) (C := "NetJoinsModel") (T := F_Mod) (N := 33) hx hb hW hown hK.1 hR (a := v0) rfl t10 rfl i_Mod 2 2 (by decide) rfl kw_1137 (fun _ h9 => h9) d_Mod_joinAll_143 ?_
      refine lv_iload_n hx hb d_Mod_joinAll_146 rfl (lv_at hl 0 rfl) ?_
      obtain ⟨a11, ea11, t12, t12i, hw⟩ := hw
      refine mx_iald hx hb hK.1 hR (a := a11) ea11 t12 t12i d_Mod_joinAll_147 ?_
      refine mx_aload_n (r := some v0) hx hb d_Mod_joinAll_148 rfl (lv_at hl 1 rfl) ?_
      obtain ⟨t13, hw⟩ := hw
      refine mx_get (ci := 8) (C := "NetJoinsModel") (T := F_Mod) (N := 33) hx hb hW hown hK.1 hR (a := v0) rfl t13 rfl i_Mod 21 2 (by decide) rfl kw_1156 (fun _ h9 => h9) d_Mod_joinAll_149 ?_
      refine lv_iconst (v := 3) hx hb d_Mod_joinAll_152 (by decide) ?_
      refine lv_iload_n hx hb d_Mod_joinAll_153 rfl (lv_at hl 2 rfl) ?_
      refine lv_imul hx hb d_Mod_joinAll_154 ?_
      refine lv_iconst (v := 2) hx hb d_Mod_joinAll_155 (by decide) ?_
      refine lv_iadd hx hb d_Mod_joinAll_156 ?_
      obtain ⟨a14, ea14, t15, t15i, hw⟩ := hw
      refine mx_iald hx hb hK.1 hR (a := a14) ea14 t15 t15i d_Mod_joinAll_157 ?_
      obtain ⟨t18, hw⟩ := hw
      refine mx_calli (va_runV (b := v0) (As := [.int (gA h a11 y6.toNatClampNeg), .int (gA h a14 (((3 : Int32) * x1) + (2 : Int32)).toNatClampNeg)]) (rest := [.int (((1600 : Int32) + ((16 : Int32) * (gA h a8 (((3 : Int32) * x1) + (1 : Int32)).toNatClampNeg))) + y6), va_rf (some v0)]) ⟨hx, hb, hml, hown, hW⟩ (mt_Mod_nameNode l D cs Z _ hw) (mx_cwV hW ok_Mod_nameNode kw_1288 rfl rfl ⟨Nat.le_of_ble_eq_true rfl, Nat.le_of_ble_eq_true rfl⟩) (mx_preV hK hZ hA hR (ci := 8) rfl t18) rfl rfl hl.1 rfl (lv_room (Nat.le_of_ble_eq_true rfl)) d_Mod_joinAll_158 ⟨Nat.le_of_ble_eq_true rfl, Nat.le_of_ble_eq_true rfl⟩) hR hA (fun r16 h17 H locs hw hR => ?_)
      try dsimp only at hw
      obtain ⟨t21, hw⟩ := hw
      refine mx_callv (va_runV (b := v0) (As := [.int (((1600 : Int32) + ((16 : Int32) * (gA h a8 (((3 : Int32) * x1) + (1 : Int32)).toNatClampNeg))) + y6), .int r16]) (rest := []) ⟨hx, hb, hml, hown, hW⟩ (mt_Mod_join l D cs Z _ hw) (mx_cwV hW ok_Mod_join kw_1276 rfl rfl ⟨Nat.le_of_ble_eq_true rfl, Nat.le_of_ble_eq_true rfl⟩) (mx_preV hK hZ hA hR (ci := 8) rfl t21) rfl rfl hl.1 rfl (lv_room (Nat.le_of_ble_eq_true rfl)) d_Mod_joinAll_161 ⟨Nat.le_of_ble_eq_true rfl, Nat.le_of_ble_eq_true rfl⟩) hR hA (fun h20 H locs hw hR => ?_)
      try dsimp only at hw
      obtain ⟨y22, ey22⟩ : ∃ y : Int32, y = x1 + (1 : Int32) := ⟨_, rfl⟩
      have hw := hw y22 ey22
      refine lv_iinc (v := y22) (lv' := [(1, .int y22), (2, .int y6), (0, va_rf (some v0))]) hx hb d_Mod_joinAll_164 hl (k := 2) rfl (by rw [ey22]; rfl) (by decide) rfl (fun ls hl => ?_)
      refine lv_goto (tgt := 104) hx hb d_Mod_joinAll_167 (by decide) ?_
      exact ih y22 _ _ _ _ hw (lv_sub hl [2, 0] rfl) hR
set_option maxHeartbeats 4000000 in
set_option maxRecDepth 100000 in
theorem mn_Mod_joinAll_60 {D : va_G} {cs : CS} {Z : Nat → Nat} {h0 : HS} {p : Program} {l : Launch} {e : Env} {s : State} {m : MethodId} {args : Array Value} {below : List Frame} {meth : Method} {c : Code} {v0 : Nat} (C : mC D cs Z h0 y_Mod_joinAll c_Mod_joinAll 5 none p s m args meth c) (post : HS → Prop) (K24 : Int32 × HS → Prop) (K39 : Int32 × Int32 × HS → Prop) (K49 : Int32 × Int32 × Int32 × HS → Prop) (hK24 : ∀ (x1 : Int32) (h : HS) (H : Heap) (locs : List Loc) (ls : Array Slot), K24 (x1, h) → lv_has ls 5 [(0, va_rf (some v0)), (1, .int x1)] → mR D cs (fA h0 s.heap.size) h s.heap H locs → W p l e ({ frames := 6, cells := 0, slots := 0, locals := 198 } : Room) s m args below meth c H locs 0 0 (MQ below (va_Qv post (mB D cs h0 s.heap.size) (fA h0 s.heap.size)) args s 0 0 (fA h0 s.heap.size)) (F0 m 24 ls [])) (hK39 : ∀ (x1 : Int32) (x2 : Int32) (h : HS) (H : Heap) (locs : List Loc) (ls : Array Slot), K39 (x1, x2, h) → lv_has ls 5 [(0, va_rf (some v0)), (1, .int x1), (2, .int x2)] → mR D cs (fA h0 s.heap.size) h s.heap H locs → W p l e ({ frames := 6, cells := 0, slots := 0, locals := 198 } : Room) s m args below meth c H locs 0 0 (MQ below (va_Qv post (mB D cs h0 s.heap.size) (fA h0 s.heap.size)) args s 0 0 (fA h0 s.heap.size)) (F0 m 39 ls [])) (hK49 : ∀ (x1 : Int32) (x2 : Int32) (x3 : Int32) (h : HS) (H : Heap) (locs : List Loc) (ls : Array Slot), K49 (x1, x2, x3, h) → lv_has ls 5 [(0, va_rf (some v0)), (1, .int x1), (2, .int x2), (3, .int x3)] → mR D cs (fA h0 s.heap.size) h s.heap H locs → W p l e ({ frames := 6, cells := 0, slots := 0, locals := 198 } : Room) s m args below meth c H locs 0 0 (MQ below (va_Qv post (mB D cs h0 s.heap.size) (fA h0 s.heap.size)) args s 0 0 (fA h0 s.heap.size)) (F0 m 49 ls [])) : ∀ (n : Nat) (x1 : Int32) (x2 : Int32) (x3 : Int32) (x4 : Int32) (h : HS) (H : Heap) (locs : List Loc) (ls : Array Slot), lpF (wb_Mod_joinAll_60 Z post K24 K39 K49 v0) n (x1, x2, x3, x4, h) → lv_has ls 5 [(0, va_rf (some v0)), (1, .int x1), (2, .int x2), (3, .int x3), (4, .int x4)] → mR D cs (fA h0 s.heap.size) h s.heap H locs → W p l e ({ frames := 6, cells := 0, slots := 0, locals := 198 } : Room) s m args below meth c H locs 0 0 (MQ below (va_Qv post (mB D cs h0 s.heap.size) (fA h0 s.heap.size)) args s 0 0 (fA h0 s.heap.size)) (F0 m 60 ls []) := by
  obtain ⟨hx, hb, hr, hml, hown, hW, hlocks, hnm, hK, hZ⟩ := id C
  have hown : s.vm.findClass "NetJoinsModel" = some m.cls := hown
  have hA : ∀ q, s.heap.size ≤ q → fA h0 s.heap.size q := fun _ h => Or.inr h
  intro n
  induction n with
  | zero => intro x1 x2 x3 x4 h H locs ls hw; exact hw.elim
  | succ n ih =>
    intro x1 x2 x3 x4 h H locs ls hw hl hR
    have hw : wb_Mod_joinAll_60 Z post K24 K39 K49 v0 (lpF (wb_Mod_joinAll_60 Z post K24 K39 K49 v0) n) (x1, x2, x3, x4, h) := hw
    unfold wb_Mod_joinAll_60 at hw
    dsimp only at hw
    refine lv_iload hx hb d_Mod_joinAll_60 (lv_at hl 4 rfl) ?_
    refine mx_aload_n (r := some v0) hx hb d_Mod_joinAll_62 rfl (lv_at hl 0 rfl) ?_
    obtain ⟨t1, hw⟩ := hw
    refine mx_get (ci := 8) (C := "NetJoinsModel") (T := F_Mod) (N := 33) hx hb hW hown hK.1 hR (a := v0) rfl t1 rfl i_Mod 22 0 (by decide) rfl kw_1157 (fun _ h9 => h9) d_Mod_joinAll_63 ?_
    refine lv_icmp_ge (tgt := 84) hx hb d_Mod_joinAll_66 (by decide) (fun c2 => ?_) (fun c2 => ?_)
    · have hw := hw.1 c2
      obtain ⟨y3, ey3⟩ : ∃ y : Int32, y = x3 + (1 : Int32) := ⟨_, rfl⟩
      have hw := hw y3 ey3
      refine lv_iinc (v := y3) (lv' := [(3, .int y3), (0, va_rf (some v0)), (1, .int x1), (2, .int x2), (4, .int x4)]) hx hb d_Mod_joinAll_84 hl (k := 3) rfl (by rw [ey3]; rfl) (by decide) rfl (fun ls hl => ?_)
      refine lv_goto (tgt := 49) hx hb d_Mod_joinAll_87 (by decide) ?_
      exact hK49 x1 x2 y3 _ _ _ _ hw (lv_sub hl [1, 2, 3, 0] rfl) hR
    · have hw := hw.2 c2
      refine mx_aload_n (r := some v0) hx hb d_Mod_joinAll_69 rfl (lv_at hl 0 rfl) ?_
      refine lv_iload_n hx hb d_Mod_joinAll_70 rfl (lv_at hl 3 rfl) ?_
      refine lv_iload_n hx hb d_Mod_joinAll_71 rfl (lv_at hl 1 rfl) ?_
      refine lv_iload hx hb d_Mod_joinAll_72 (lv_at hl 4 rfl) ?_
      refine lv_iload_n hx hb d_Mod_joinAll_74 rfl (lv_at hl 2 rfl) ?_
      obtain ⟨t6, hw⟩ := hw
      refine mx_callv (va_runV (b := v0) (As := [.int x3, .int x1, .int x4, .int x2]) (rest := []) ⟨hx, hb, hml, hown, hW⟩ (mt_Mod_joinBuses l D cs Z _ hw) (mx_cwV hW ok_Mod_joinBuses kw_1292 rfl rfl ⟨Nat.le_of_ble_eq_true rfl, Nat.le_of_ble_eq_true rfl⟩) (mx_preV hK hZ hA hR (ci := 8) rfl t6) rfl rfl hl.1 rfl (lv_room (Nat.le_of_ble_eq_true rfl)) d_Mod_joinAll_75 ⟨Nat.le_of_ble_eq_true rfl, Nat.le_of_ble_eq_true rfl⟩) hR hA (fun h5 H locs hw hR => ?_)
      try dsimp only at hw
      obtain ⟨y7, ey7⟩ : ∃ y : Int32, y = x4 + (1 : Int32) := ⟨_, rfl⟩
      have hw := hw y7 ey7
      refine lv_iinc (v := y7) (lv' := [(4, .int y7), (0, va_rf (some v0)), (1, .int x1), (2, .int x2), (3, .int x3)]) hx hb d_Mod_joinAll_78 hl (k := 4) rfl (by rw [ey7]; rfl) (by decide) rfl (fun ls hl => ?_)
      refine lv_goto (tgt := 60) hx hb d_Mod_joinAll_81 (by decide) ?_
      exact ih x1 x2 x3 y7 _ _ _ _ hw (lv_sub hl [1, 2, 3, 4, 0] rfl) hR
set_option maxHeartbeats 4000000 in
set_option maxRecDepth 100000 in
theorem mn_Mod_joinAll_49 {D : va_G} {cs : CS} {Z : Nat → Nat} {h0 : HS} {p : Program} {l : Launch} {e : Env} {s : State} {m : MethodId} {args : Array Value} {below : List Frame} {meth : Method} {c : Code} {v0 : Nat} (C : mC D cs Z h0 y_Mod_joinAll c_Mod_joinAll 5 none p s m args meth c) (post : HS → Prop) (K24 : Int32 × HS → Prop) (K39 : Int32 × Int32 × HS → Prop) (hK24 : ∀ (x1 : Int32) (h : HS) (H : Heap) (locs : List Loc) (ls : Array Slot), K24 (x1, h) → lv_has ls 5 [(0, va_rf (some v0)), (1, .int x1)] → mR D cs (fA h0 s.heap.size) h s.heap H locs → W p l e ({ frames := 6, cells := 0, slots := 0, locals := 198 } : Room) s m args below meth c H locs 0 0 (MQ below (va_Qv post (mB D cs h0 s.heap.size) (fA h0 s.heap.size)) args s 0 0 (fA h0 s.heap.size)) (F0 m 24 ls [])) (hK39 : ∀ (x1 : Int32) (x2 : Int32) (h : HS) (H : Heap) (locs : List Loc) (ls : Array Slot), K39 (x1, x2, h) → lv_has ls 5 [(0, va_rf (some v0)), (1, .int x1), (2, .int x2)] → mR D cs (fA h0 s.heap.size) h s.heap H locs → W p l e ({ frames := 6, cells := 0, slots := 0, locals := 198 } : Room) s m args below meth c H locs 0 0 (MQ below (va_Qv post (mB D cs h0 s.heap.size) (fA h0 s.heap.size)) args s 0 0 (fA h0 s.heap.size)) (F0 m 39 ls [])) : ∀ (n : Nat) (x1 : Int32) (x2 : Int32) (x3 : Int32) (h : HS) (H : Heap) (locs : List Loc) (ls : Array Slot), lpF (wb_Mod_joinAll_49 Z post K24 K39 v0) n (x1, x2, x3, h) → lv_has ls 5 [(0, va_rf (some v0)), (1, .int x1), (2, .int x2), (3, .int x3)] → mR D cs (fA h0 s.heap.size) h s.heap H locs → W p l e ({ frames := 6, cells := 0, slots := 0, locals := 198 } : Room) s m args below meth c H locs 0 0 (MQ below (va_Qv post (mB D cs h0 s.heap.size) (fA h0 s.heap.size)) args s 0 0 (fA h0 s.heap.size)) (F0 m 49 ls []) := by
  obtain ⟨hx, hb, hr, hml, hown, hW, hlocks, hnm, hK, hZ⟩ := id C
  have hown : s.vm.findClass "NetJoinsModel" = some m.cls := hown
  have hA : ∀ q, s.heap.size ≤ q → fA h0 s.heap.size q := fun _ h => Or.inr h
  intro n
  induction n with
  | zero => intro x1 x2 x3 h H locs ls hw; exact hw.elim
  | succ n ih =>
    intro x1 x2 x3 h H locs ls hw hl hR
    have hw : wb_Mod_joinAll_49 Z post K24 K39 v0 (lpF (wb_Mod_joinAll_49 Z post K24 K39 v0) n) (x1, x2, x3, h) := hw
    unfold wb_Mod_joinAll_49 at hw
    dsimp only at hw
    refine lv_iload_n hx hb d_Mod_joinAll_49 rfl (lv_at hl 3 rfl) ?_
    refine mx_aload_n (r := some v0) hx hb d_Mod_joinAll_50 rfl (lv_at hl 0 rfl) ?_
    obtain ⟨t1, hw⟩ := hw
    refine mx_get (ci := 8) (C := "NetJoinsModel") (T := F_Mod) (N := 33) hx hb hW hown hK.1 hR (a := v0) rfl t1 rfl i_Mod 22 0 (by decide) rfl kw_1157 (fun _ h9 => h9) d_Mod_joinAll_51 ?_
    refine lv_icmp_ge (tgt := 90) hx hb d_Mod_joinAll_54 (by decide) (fun c2 => ?_) (fun c2 => ?_)
    · have hw := hw.1 c2
      obtain ⟨y3, ey3⟩ : ∃ y : Int32, y = x2 + (1 : Int32) := ⟨_, rfl⟩
      have hw := hw y3 ey3
      refine lv_iinc (v := y3) (lv' := [(2, .int y3), (0, va_rf (some v0)), (1, .int x1), (3, .int x3)]) hx hb d_Mod_joinAll_90 hl (k := 2) rfl (by rw [ey3]; rfl) (by decide) rfl (fun ls hl => ?_)
      refine lv_goto (tgt := 39) hx hb d_Mod_joinAll_93 (by decide) ?_
      exact hK39 x1 y3 _ _ _ _ hw (lv_sub hl [1, 2, 0] rfl) hR
    · have hw := hw.2 c2
      refine lv_iconst (v := 0) hx hb d_Mod_joinAll_57 (by decide) ?_
      refine lv_istore (i := 4) (lv' := [(4, .int (0 : Int32)), (0, va_rf (some v0)), (1, .int x1), (2, .int x2), (3, .int x3)]) hx hb d_Mod_joinAll_58 hl (by decide) rfl (fun ls hl => ?_)
      obtain ⟨n9, hw⟩ := hw
      exact mn_Mod_joinAll_60 C post K24 K39 (lpF (wb_Mod_joinAll_49 Z post K24 K39 v0) n) hK24 hK39 ih n9 x1 x2 x3 (0 : Int32) _ _ _ _ hw (lv_sub hl [1, 2, 3, 4, 0] rfl) hR
set_option maxHeartbeats 4000000 in
set_option maxRecDepth 100000 in
theorem mn_Mod_joinAll_39 {D : va_G} {cs : CS} {Z : Nat → Nat} {h0 : HS} {p : Program} {l : Launch} {e : Env} {s : State} {m : MethodId} {args : Array Value} {below : List Frame} {meth : Method} {c : Code} {v0 : Nat} (C : mC D cs Z h0 y_Mod_joinAll c_Mod_joinAll 5 none p s m args meth c) (post : HS → Prop) (K24 : Int32 × HS → Prop) (hK24 : ∀ (x1 : Int32) (h : HS) (H : Heap) (locs : List Loc) (ls : Array Slot), K24 (x1, h) → lv_has ls 5 [(0, va_rf (some v0)), (1, .int x1)] → mR D cs (fA h0 s.heap.size) h s.heap H locs → W p l e ({ frames := 6, cells := 0, slots := 0, locals := 198 } : Room) s m args below meth c H locs 0 0 (MQ below (va_Qv post (mB D cs h0 s.heap.size) (fA h0 s.heap.size)) args s 0 0 (fA h0 s.heap.size)) (F0 m 24 ls [])) : ∀ (n : Nat) (x1 : Int32) (x2 : Int32) (h : HS) (H : Heap) (locs : List Loc) (ls : Array Slot), lpF (wb_Mod_joinAll_39 Z post K24 v0) n (x1, x2, h) → lv_has ls 5 [(0, va_rf (some v0)), (1, .int x1), (2, .int x2)] → mR D cs (fA h0 s.heap.size) h s.heap H locs → W p l e ({ frames := 6, cells := 0, slots := 0, locals := 198 } : Room) s m args below meth c H locs 0 0 (MQ below (va_Qv post (mB D cs h0 s.heap.size) (fA h0 s.heap.size)) args s 0 0 (fA h0 s.heap.size)) (F0 m 39 ls []) := by
  obtain ⟨hx, hb, hr, hml, hown, hW, hlocks, hnm, hK, hZ⟩ := id C
  have hown : s.vm.findClass "NetJoinsModel" = some m.cls := hown
  have hA : ∀ q, s.heap.size ≤ q → fA h0 s.heap.size q := fun _ h => Or.inr h
  intro n
  induction n with
  | zero => intro x1 x2 h H locs ls hw; exact hw.elim
  | succ n ih =>
    intro x1 x2 h H locs ls hw hl hR
    have hw : wb_Mod_joinAll_39 Z post K24 v0 (lpF (wb_Mod_joinAll_39 Z post K24 v0) n) (x1, x2, h) := hw
    unfold wb_Mod_joinAll_39 at hw
    dsimp only at hw
    refine lv_iload_n hx hb d_Mod_joinAll_39 rfl (lv_at hl 2 rfl) ?_
    refine mx_aload_n (r := some v0) hx hb d_Mod_joinAll_40 rfl (lv_at hl 0 rfl) ?_
    obtain ⟨t1, hw⟩ := hw
    refine mx_get (ci := 8) (C := "NetJoinsModel") (T := F_Mod) (N := 33) hx hb hW hown hK.1 hR (a := v0) rfl t1 rfl i_Mod 1 0 (by decide) rfl kw_1136 (fun _ h9 => h9) d_Mod_joinAll_41 ?_
    refine lv_icmp_ge (tgt := 96) hx hb d_Mod_joinAll_44 (by decide) (fun c2 => ?_) (fun c2 => ?_)
    · have hw := hw.1 c2
      obtain ⟨y3, ey3⟩ : ∃ y : Int32, y = x1 + (1 : Int32) := ⟨_, rfl⟩
      have hw := hw y3 ey3
      refine lv_iinc (v := y3) (lv' := [(1, .int y3), (0, va_rf (some v0)), (2, .int x2)]) hx hb d_Mod_joinAll_96 hl (k := 1) rfl (by rw [ey3]; rfl) (by decide) rfl (fun ls hl => ?_)
      refine lv_goto (tgt := 24) hx hb d_Mod_joinAll_99 (by decide) ?_
      exact hK24 y3 _ _ _ _ hw (lv_sub hl [1, 0] rfl) hR
    · have hw := hw.2 c2
      refine lv_iconst (v := 0) hx hb d_Mod_joinAll_47 (by decide) ?_
      refine lv_istore_n (i := 3) (lv' := [(3, .int (0 : Int32)), (0, va_rf (some v0)), (1, .int x1), (2, .int x2)]) hx hb d_Mod_joinAll_48 rfl hl (by decide) rfl (fun ls hl => ?_)
      obtain ⟨n9, hw⟩ := hw
      exact mn_Mod_joinAll_49 C post K24 (lpF (wb_Mod_joinAll_39 Z post K24 v0) n) hK24 ih n9 x1 x2 (0 : Int32) _ _ _ _ hw (lv_sub hl [1, 2, 3, 0] rfl) hR
set_option maxHeartbeats 4000000 in
set_option maxRecDepth 100000 in
theorem mn_Mod_joinAll_24 {D : va_G} {cs : CS} {Z : Nat → Nat} {h0 : HS} {p : Program} {l : Launch} {e : Env} {s : State} {m : MethodId} {args : Array Value} {below : List Frame} {meth : Method} {c : Code} {v0 : Nat} (C : mC D cs Z h0 y_Mod_joinAll c_Mod_joinAll 5 none p s m args meth c) (post : HS → Prop) : ∀ (n : Nat) (x1 : Int32) (h : HS) (H : Heap) (locs : List Loc) (ls : Array Slot), lpF (wb_Mod_joinAll_24 Z post v0) n (x1, h) → lv_has ls 5 [(0, va_rf (some v0)), (1, .int x1)] → mR D cs (fA h0 s.heap.size) h s.heap H locs → W p l e ({ frames := 6, cells := 0, slots := 0, locals := 198 } : Room) s m args below meth c H locs 0 0 (MQ below (va_Qv post (mB D cs h0 s.heap.size) (fA h0 s.heap.size)) args s 0 0 (fA h0 s.heap.size)) (F0 m 24 ls []) := by
  obtain ⟨hx, hb, hr, hml, hown, hW, hlocks, hnm, hK, hZ⟩ := id C
  have hown : s.vm.findClass "NetJoinsModel" = some m.cls := hown
  have hA : ∀ q, s.heap.size ≤ q → fA h0 s.heap.size q := fun _ h => Or.inr h
  intro n
  induction n with
  | zero => intro x1 h H locs ls hw; exact hw.elim
  | succ n ih =>
    intro x1 h H locs ls hw hl hR
    have hw : wb_Mod_joinAll_24 Z post v0 (lpF (wb_Mod_joinAll_24 Z post v0) n) (x1, h) := hw
    unfold wb_Mod_joinAll_24 at hw
    dsimp only at hw
    refine lv_iload_n hx hb d_Mod_joinAll_24 rfl (lv_at hl 1 rfl) ?_
    refine mx_aload_n (r := some v0) hx hb d_Mod_joinAll_25 rfl (lv_at hl 0 rfl) ?_
    obtain ⟨t1, hw⟩ := hw
    refine mx_get (ci := 8) (C := "NetJoinsModel") (T := F_Mod) (N := 33) hx hb hW hown hK.1 hR (a := v0) rfl t1 rfl i_Mod 1 0 (by decide) rfl kw_1136 (fun _ h9 => h9) d_Mod_joinAll_26 ?_
    refine lv_icmp_ge (tgt := 102) hx hb d_Mod_joinAll_29 (by decide) (fun c2 => ?_) (fun c2 => ?_)
    · have hw := hw.1 c2
      refine lv_iconst (v := 0) hx hb d_Mod_joinAll_102 (by decide) ?_
      refine lv_istore_n (i := 1) (lv' := [(1, .int (0 : Int32)), (0, va_rf (some v0))]) hx hb d_Mod_joinAll_103 rfl hl (by decide) rfl (fun ls hl => ?_)
      obtain ⟨n9, hw⟩ := hw
      exact mn_Mod_joinAll_104 C post n9 (0 : Int32) _ _ _ _ hw (lv_sub hl [1, 0] rfl) hR
    · have hw := hw.2 c2
      refine mx_aload_n (r := some v0) hx hb d_Mod_joinAll_32 rfl (lv_at hl 0 rfl) ?_
      refine lv_iload_n hx hb d_Mod_joinAll_33 rfl (lv_at hl 1 rfl) ?_
      obtain ⟨t5, hw⟩ := hw
      refine mx_callv (va_runV (b := v0) (As := [.int x1]) (rest := []) ⟨hx, hb, hml, hown, hW⟩ (mt_Mod_joinSheet l D cs Z _ hw) (mx_cwV hW ok_Mod_joinSheet kw_1256 rfl rfl ⟨Nat.le_of_ble_eq_true rfl, Nat.le_of_ble_eq_true rfl⟩) (mx_preV hK hZ hA hR (ci := 8) rfl t5) rfl rfl hl.1 rfl (lv_room (Nat.le_of_ble_eq_true rfl)) d_Mod_joinAll_34 ⟨Nat.le_of_ble_eq_true rfl, Nat.le_of_ble_eq_true rfl⟩) hR hA (fun h4 H locs hw hR => ?_)
      try dsimp only at hw
      refine lv_iconst (v := 0) hx hb d_Mod_joinAll_37 (by decide) ?_
      refine lv_istore_n (i := 2) (lv' := [(2, .int (0 : Int32)), (0, va_rf (some v0)), (1, .int x1)]) hx hb d_Mod_joinAll_38 rfl hl (by decide) rfl (fun ls hl => ?_)
      obtain ⟨n9, hw⟩ := hw
      exact mn_Mod_joinAll_39 C post (lpF (wb_Mod_joinAll_24 Z post v0) n) ih n9 x1 (0 : Int32) _ _ _ _ hw (lv_sub hl [1, 2, 0] rfl) hR
set_option maxHeartbeats 4000000 in
set_option maxRecDepth 100000 in
theorem mn_Mod_joinAll_2 {D : va_G} {cs : CS} {Z : Nat → Nat} {h0 : HS} {p : Program} {l : Launch} {e : Env} {s : State} {m : MethodId} {args : Array Value} {below : List Frame} {meth : Method} {c : Code} {v0 : Nat} (C : mC D cs Z h0 y_Mod_joinAll c_Mod_joinAll 5 none p s m args meth c) (post : HS → Prop) : ∀ (n : Nat) (x1 : Int32) (h : HS) (H : Heap) (locs : List Loc) (ls : Array Slot), lpF (wb_Mod_joinAll_2 Z post v0) n (x1, h) → lv_has ls 5 [(0, va_rf (some v0)), (1, .int x1)] → mR D cs (fA h0 s.heap.size) h s.heap H locs → W p l e ({ frames := 6, cells := 0, slots := 0, locals := 198 } : Room) s m args below meth c H locs 0 0 (MQ below (va_Qv post (mB D cs h0 s.heap.size) (fA h0 s.heap.size)) args s 0 0 (fA h0 s.heap.size)) (F0 m 2 ls []) := by
  obtain ⟨hx, hb, hr, hml, hown, hW, hlocks, hnm, hK, hZ⟩ := id C
  have hown : s.vm.findClass "NetJoinsModel" = some m.cls := hown
  have hA : ∀ q, s.heap.size ≤ q → fA h0 s.heap.size q := fun _ h => Or.inr h
  intro n
  induction n with
  | zero => intro x1 h H locs ls hw; exact hw.elim
  | succ n ih =>
    intro x1 h H locs ls hw hl hR
    have hw : wb_Mod_joinAll_2 Z post v0 (lpF (wb_Mod_joinAll_2 Z post v0) n) (x1, h) := hw
    unfold wb_Mod_joinAll_2 at hw
    dsimp only at hw
    refine lv_iload_n hx hb d_Mod_joinAll_2 rfl (lv_at hl 1 rfl) ?_
    refine lv_sipush (v := 19520) hx hb d_Mod_joinAll_3 (by decide) ?_
    refine lv_icmp_ge (tgt := 22) hx hb d_Mod_joinAll_6 (by decide) (fun c1 => ?_) (fun c1 => ?_)
    · have hw := hw.1 c1
      refine lv_iconst (v := 0) hx hb d_Mod_joinAll_22 (by decide) ?_
      refine lv_istore_n (i := 1) (lv' := [(1, .int (0 : Int32)), (0, va_rf (some v0))]) hx hb d_Mod_joinAll_23 rfl hl (by decide) rfl (fun ls hl => ?_)
      obtain ⟨n9, hw⟩ := hw
      exact mn_Mod_joinAll_24 C post n9 (0 : Int32) _ _ _ _ hw (lv_sub hl [1, 0] rfl) hR
    · have hw := hw.2 c1
      refine mx_aload_n (r := some v0) hx hb d_Mod_joinAll_9 rfl (lv_at hl 0 rfl) ?_
      obtain ⟨t2, hw⟩ := hw
      refine mx_get (ci := 8) (C := "NetJoinsModel") (T := F_Mod) (N := 33) hx hb hW hown hK.1 hR (a := v0) rfl t2 rfl i_Mod 25 2 (by decide) rfl kw_1160 (fun _ h9 => h9) d_Mod_joinAll_10 ?_
      refine lv_iload_n hx hb d_Mod_joinAll_13 rfl (lv_at hl 1 rfl) ?_
      refine lv_iload_n hx hb d_Mod_joinAll_14 rfl (lv_at hl 1 rfl) ?_
      obtain ⟨a3, ea3, t4, t4i, hw⟩ := hw
      refine mx_iast hx hb hK.1 hR (a := a3) ea3 t4 t4i d_Mod_joinAll_15 (fun H locs hR => ?_)
      obtain ⟨h5, eh5⟩ : ∃ z, z = sA h a3 x1.toNatClampNeg x1 := ⟨_, rfl⟩
      rw [← eh5] at hR
      have hw := hw h5 eh5
      obtain ⟨y6, ey6⟩ : ∃ y : Int32, y = x1 + (1 : Int32) := ⟨_, rfl⟩
      have hw := hw y6 ey6
      refine lv_iinc (v := y6) (lv' := [(1, .int y6), (0, va_rf (some v0))]) hx hb d_Mod_joinAll_16 hl (k := 1) rfl (by rw [ey6]; rfl) (by decide) rfl (fun ls hl => ?_)
      refine lv_goto (tgt := 2) hx hb d_Mod_joinAll_19 (by decide) ?_
      exact ih y6 _ _ _ _ hw (lv_sub hl [1, 0] rfl) hR
set_option maxHeartbeats 4000000 in
set_option maxRecDepth 100000 in
theorem mt_Mod_joinAll (l : Launch) (D : va_G) (cs : CS) (Z : Nat → Nat) (sz : Nat) {post : HS → Prop} {h : HS} {v0 : Nat}  (hw : wp_Mod_joinAll Z post h v0 ) : Met l y_Mod_joinAll (Cond.code y_Mod_joinAll c_Mod_joinAll 5 none :: WA) ({ frames := 6, cells := 0, slots := 0, locals := 198 } : Room) (mPc D cs Z h sz [va_rf (some v0)]) (va_Qv post (mB D cs h sz) (fA h sz)) 0 0 (fA h sz) := by
  refine mx_met (fun sz => va_Qv post (mB D cs h sz) (fA h sz)) (by decide) (by simp [lg_sl, mx_rf_cat, cat_i, cat_l]) ?_
  intro p e s m args below meth c C hR ls hl
  have hl : lv_has ls 5 [(0, va_rf (some v0))] := hl
  obtain ⟨hx, hb, hr, hml, hown, hW, hlocks, hnm, hK, hZ⟩ := id C
  have hown : s.vm.findClass "NetJoinsModel" = some m.cls := hown
  have hA : ∀ q, s.heap.size ≤ q → fA h s.heap.size q := fun _ h => Or.inr h
  unfold wp_Mod_joinAll at hw
  refine lv_iconst (v := 0) hx hb d_Mod_joinAll_0 (by decide) ?_
  refine lv_istore_n (i := 1) (lv' := [(1, .int (0 : Int32)), (0, va_rf (some v0))]) hx hb d_Mod_joinAll_1 rfl hl (by decide) rfl (fun ls hl => ?_)
  obtain ⟨n9, hw⟩ := hw
  exact mn_Mod_joinAll_2 C post n9 (0 : Int32) _ _ _ _ hw (lv_sub hl [1, 0] rfl) hR
