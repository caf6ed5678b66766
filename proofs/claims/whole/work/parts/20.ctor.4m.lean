set_option maxHeartbeats 4000000 in
set_option maxRecDepth 100000 in
theorem mt_Joins_init (l : Launch) (D : va_G) (cs : CS) (Z : Nat → Nat) (sz : Nat) {post : HS → Prop} {h : HS} {v0 : Nat} {x1 : Int32} {x2 : Int32} (hw : wp_Joins_init Z post h v0 x1 x2) : Met l y_Joins_init (Cond.code y_Joins_init c_Joins_init 3 none :: WA) ({ frames := 4, cells := 19, slots := 1077, locals := 144 } : Room) (mPc D cs Z h sz [va_rf (some v0), .int x1, .int x2]) (va_Qv post (mB D cs h sz) (fA h sz)) 19 1077 (fA h sz) := by
  refine mx_met (fun sz => va_Qv post (mB D cs h sz) (fA h sz)) (by decide) (by simp [lg_sl, mx_rf_cat, cat_i, cat_l]) ?_
  intro p e s m args below meth c C hR ls hl
  have hl : lv_has ls 3 [(0, va_rf (some v0)), (1, .int x1), (2, .int x2)] := hl
  obtain ⟨hx, hb, hr, hml, hown, hW, hlocks, hnm, hK, hZ⟩ := id C
  have hown : s.vm.findClass "NetJoins$Joins" = some m.cls := hown
  have hA : ∀ q, s.heap.size ≤ q → fA h s.heap.size q := fun _ h => Or.inr h
  unfold wp_Joins_init at hw
  refine mx_aload_n (r := some v0) hx hb d_Joins_init_0 rfl (lv_at hl 0 rfl) ?_
  refine W.objInit hx hb hown (hW _ kw_70) (hW _ kw_37) (hW _ kw_38) rfl (by rw [hml]; exact hl.1) rfl d_Joins_init_1 (Nat.le_of_ble_eq_true rfl) (Nat.le_of_ble_eq_true rfl) ?_
  refine W.eq (g2 := F0 m 4 ls []) rfl ?_
  refine mx_aload_n (r := some v0) hx hb d_Joins_init_4 rfl (lv_at hl 0 rfl) ?_
  refine lv_iload_n hx hb d_Joins_init_5 rfl (lv_at hl 1 rfl) ?_
  refine lv_iconst (v := 0) hx hb d_Joins_init_6 (by decide) ?_
  obtain ⟨t2, t2b, hw⟩ := hw
  refine mx_mna hx hb hW hown hK hR hA kw_71 kw_84 t2 (by omega) (by show _ ≤ _; simp only []; omega) (by show _ ≤ _; simp only []; omega) d_Joins_init_7 (fun q1 H locs tq1 hR => ?_)
  refine W.widen (k := 18) (n := 17) (by omega) (by omega) ?_
  have hw := hw q1 tq1
  obtain ⟨h3, eh3⟩ : ∃ z, z = mN h q1 x1.toNatClampNeg x1.toNatClampNeg := ⟨_, rfl⟩
  rw [← eh3] at hR
  have hw := hw h3 eh3
  obtain ⟨t4, hw⟩ := hw
  refine mx_putF (ci := 2) (C := "NetJoins$Joins") (T := F_Joins) (N := 1) (v := va_rf (some q1)) (h' := sR h3 200 v0 (some q1)) hx hb hW hown hK.1 hR (a := v0) rfl t4 rfl i_Joins t_Joins t_Joins_ok n_Joins 0 2 (by decide) rfl kw_80 (fun _ h9 => h9) rfl hnm rfl (mx_rf_n _ rfl _).1 (mx_rf_n _ rfl _).2 d_Joins_init_11 rfl (toE_sR (ci := 2) (k := 0) t4 rfl) (fun H locs hR => ?_)
  obtain ⟨h5, eh5⟩ : ∃ z, z = sR h3 200 v0 (some q1) := ⟨_, rfl⟩
  rw [← eh5] at hR
  have hw := hw h5 eh5
  refine mx_aload_n (r := some v0) hx hb d_Joins_init_14 rfl (lv_at hl 0 rfl) ?_
  obtain ⟨t6, hw⟩ := hw
  refine mx_get (ci := 2) (C := "NetJoins$Joins") (T := F_Joins) (N := 1) hx hb hW hown hK.1 hR (a := v0) rfl t6 rfl i_Joins 0 2 (by decide) rfl kw_80 (fun _ h9 => h9) d_Joins_init_15 ?_
  refine lv_iconst (v := 0) hx hb d_Joins_init_18 (by decide) ?_
  refine lv_iload_n hx hb d_Joins_init_19 rfl (lv_at hl 2 rfl) ?_
  obtain ⟨t8, t8b, hw⟩ := hw
  refine mx_arr_i (N' := x2.toNatClampNeg) hx hb hW hK.1 hR hA kw_84 t8 rfl (by omega) (by decide) (by show _ ≤ _; simp only []; omega) d_Joins_init_20 (fun q7 H tq7 hR => ?_)
  refine W.widen (k := 19) (n := 1077) (by first | decide | omega) (by first | decide | omega) ?_
  have hw := hw q7 tq7
  obtain ⟨h9, eh9⟩ : ∃ z, z = nH h5 q7 1 x2.toNatClampNeg := ⟨_, rfl⟩
  rw [← eh9] at hR
  have hw := hw h9 eh9
  obtain ⟨a10, ea10, t11, t11i, hw⟩ := hw
  obtain ⟨t12, hw⟩ := hw
  refine mx_rast hx hb hK hR (a := a10) ea10 t11 (b := q7) rfl t12 t11i d_Joins_init_22 (fun H locs hR => ?_)
  obtain ⟨h13, eh13⟩ : ∃ z, z = sQ h9 a10 (0 : Int32).toNatClampNeg (some q7) := ⟨_, rfl⟩
  rw [← eh13] at hR
  have hw := hw h13 eh13
  refine mx_aload_n (r := some v0) hx hb d_Joins_init_23 rfl (lv_at hl 0 rfl) ?_
  refine lv_iconst (v := 0) hx hb d_Joins_init_24 (by decide) ?_
  obtain ⟨t16, hw⟩ := hw
  refine mx_callv (va_runV (b := v0) (As := [.int (0 : Int32)]) (rest := []) ⟨hx, hb, hml, hown, hW⟩ (mt_Joins_scatterRow l D cs Z _ hw) (mx_cwV hW ok_Joins_scatterRow kw_73 rfl rfl ⟨Nat.le_of_ble_eq_true rfl, Nat.le_of_ble_eq_true rfl⟩) (mx_preV hK hZ hA hR (ci := 2) rfl t16) rfl rfl hl.1 rfl (lv_room (Nat.le_of_ble_eq_true rfl)) d_Joins_init_25 ⟨Nat.le_of_ble_eq_true rfl, Nat.le_of_ble_eq_true rfl⟩) hR hA (fun h15 H locs hw hR => ?_)
  try dsimp only at hw
  exact mx_vret hx hb hr hlocks hR hw d_Joins_init_28
set_option maxHeartbeats 4000000 in
set_option maxRecDepth 100000 in
theorem mt_NJ_init (l : Launch) (D : va_G) (cs : CS) (Z : Nat → Nat) (sz : Nat) {post : HS → Prop} {h : HS} {v0 : Nat}  (hw : wp_NJ_init Z post h v0 ) : Met l y_NJ_init (Cond.code y_NJ_init c_NJ_init 1 none :: WA) ({ frames := 5, cells := 58, slots := 10988, locals := 166 } : Room) (mPc D cs Z h sz [va_rf (some v0)]) (va_Qv post (mB D cs h sz) (fA h sz)) 58 10988 (fA h sz) := by
  refine mx_met (fun sz => va_Qv post (mB D cs h sz) (fA h sz)) (by decide) (by simp [lg_sl, mx_rf_cat, cat_i, cat_l]) ?_
  intro p e s m args below meth c C hR ls hl
  have hl : lv_has ls 1 [(0, va_rf (some v0))] := hl
  obtain ⟨hx, hb, hr, hml, hown, hW, hlocks, hnm, hK, hZ⟩ := id C
  have hown : s.vm.findClass "NetJoins" = some m.cls := hown
  have hA : ∀ q, s.heap.size ≤ q → fA h s.heap.size q := fun _ h => Or.inr h
  unfold wp_NJ_init at hw
  refine mx_aload_n (r := some v0) hx hb d_NJ_init_0 rfl (lv_at hl 0 rfl) ?_
  refine W.objInit hx hb hown (hW _ kw_36) (hW _ kw_37) (hW _ kw_38) rfl (by rw [hml]; exact hl.1) rfl d_NJ_init_1 (Nat.le_of_ble_eq_true rfl) (Nat.le_of_ble_eq_true rfl) ?_
  refine W.eq (g2 := F0 m 4 ls []) rfl ?_
  refine mx_aload_n (r := some v0) hx hb d_NJ_init_4 rfl (lv_at hl 0 rfl) ?_
  refine mx_new (ci := 9) (C := "java/util/ArrayList") (T := F_AL) (N := 3) hx hb hW hown hK.1 hR hA rfl i_AL t_AL t_AL_ok kw_39 kw_40 kw_4 (fun q j hj => nf_AL _ q j hj) (by decide) (by decide) d_NJ_init_5 (fun q1 H tq1 hR => ?_)
  refine W.widen (k := 1) (n := 3) (by decide) (by decide) ?_
  have hw := hw q1 tq1
  obtain ⟨h2, eh2⟩ : ∃ z, z = nH h q1 25 0 := ⟨_, rfl⟩
  rw [← eh2] at hR
  have hw := hw h2 eh2
  refine lv_dup hx hb d_NJ_init_8 (mx_rf_cat _) ?_
  refine mx_callv (va_runI (b := q1) (As := []) (rest := [va_rf (some q1), va_rf (some v0)]) ⟨hx, hb, hml, hown, hW⟩ (mt_AL_init l D cs Z _ hw) (mx_cwI hW ok_AL_init kw_41 rfl rfl ⟨Nat.le_of_ble_eq_true rfl, Nat.le_of_ble_eq_true rfl⟩) (mx_preS hK hZ hA hR) rfl rfl hl.1 rfl (lv_room (Nat.le_of_ble_eq_true rfl)) d_NJ_init_9 ⟨Nat.le_of_ble_eq_true rfl, Nat.le_of_ble_eq_true rfl⟩) hR hA (fun h4 H locs hw hR => ?_)
  try dsimp only at hw
  obtain ⟨t5, hw⟩ := hw
  refine mx_putF (ci := 0) (C := "NetJoins") (T := F_NJ) (N := 18) (v := va_rf (some q1)) (h' := sR h4 0 v0 (some q1)) hx hb hW hown hK.1 hR (a := v0) rfl t5 rfl i_NJ t_NJ t_NJ_ok n_NJ 0 2 (by decide) rfl kw_120 (fun _ h9 => h9) rfl hnm rfl (mx_rf_n _ rfl _).1 (mx_rf_n _ rfl _).2 d_NJ_init_12 rfl (toE_sR (ci := 0) (k := 0) t5 rfl) (fun H locs hR => ?_)
  obtain ⟨h6, eh6⟩ : ∃ z, z = sR h4 0 v0 (some q1) := ⟨_, rfl⟩
  rw [← eh6] at hR
  have hw := hw h6 eh6
  refine mx_aload_n (r := some v0) hx hb d_NJ_init_15 rfl (lv_at hl 0 rfl) ?_
  refine mx_new (ci := 9) (C := "java/util/ArrayList") (T := F_AL) (N := 3) hx hb hW hown hK.1 hR hA rfl i_AL t_AL t_AL_ok kw_39 kw_40 kw_4 (fun q j hj => nf_AL _ q j hj) (by decide) (by decide) d_NJ_init_16 (fun q7 H tq7 hR => ?_)
  refine W.widen (k := 2) (n := 6) (by decide) (by decide) ?_
  have hw := hw q7 tq7
  obtain ⟨h8, eh8⟩ : ∃ z, z = nH h6 q7 25 0 := ⟨_, rfl⟩
  rw [← eh8] at hR
  have hw := hw h8 eh8
  refine lv_dup hx hb d_NJ_init_19 (mx_rf_cat _) ?_
  refine mx_callv (va_runI (b := q7) (As := []) (rest := [va_rf (some q7), va_rf (some v0)]) ⟨hx, hb, hml, hown, hW⟩ (mt_AL_init l D cs Z _ hw) (mx_cwI hW ok_AL_init kw_41 rfl rfl ⟨Nat.le_of_ble_eq_true rfl, Nat.le_of_ble_eq_true rfl⟩) (mx_preS hK hZ hA hR) rfl rfl hl.1 rfl (lv_room (Nat.le_of_ble_eq_true rfl)) d_NJ_init_20 ⟨Nat.le_of_ble_eq_true rfl, Nat.le_of_ble_eq_true rfl⟩) hR hA (fun h10 H locs hw hR => ?_)
  try dsimp only at hw
  obtain ⟨t11, hw⟩ := hw
  refine mx_putF (ci := 0) (C := "NetJoins") (T := F_NJ) (N := 18) (v := va_rf (some q7)) (h' := sR h10 1 v0 (some q7)) hx hb hW hown hK.1 hR (a := v0) rfl t11 rfl i_NJ t_NJ t_NJ_ok n_NJ 1 2 (by decide) rfl kw_121 (fun _ h9 => h9) rfl hnm rfl (mx_rf_n _ rfl _).1 (mx_rf_n _ rfl _).2 d_NJ_init_23 rfl (toE_sR (ci := 0) (k := 1) t11 rfl) (fun H locs hR => ?_)
  obtain ⟨h12, eh12⟩ : ∃ z, z = sR h10 1 v0 (some q7) := ⟨_, rfl⟩
  rw [← eh12] at hR
  have hw := hw h12 eh12
  refine mx_aload_n (r := some v0) hx hb d_NJ_init_26 rfl (lv_at hl 0 rfl) ?_
  refine mx_new (ci := 9) (C := "java/util/ArrayList") (T := F_AL) (N := 3) hx hb hW hown hK.1 hR hA rfl i_AL t_AL t_AL_ok kw_39 kw_40 kw_4 (fun q j hj => nf_AL _ q j hj) (by decide) (by decide) d_NJ_init_27 (fun q13 H tq13 hR => ?_)
  refine W.widen (k := 3) (n := 9) (by decide) (by decide) ?_
  have hw := hw q13 tq13
  obtain ⟨h14, eh14⟩ : ∃ z, z = nH h12 q13 25 0 := ⟨_, rfl⟩
  rw [← eh14] at hR
  have hw := hw h14 eh14
  refine lv_dup hx hb d_NJ_init_30 (mx_rf_cat _) ?_
  refine mx_callv (va_runI (b := q13) (As := []) (rest := [va_rf (some q13), va_rf (some v0)]) ⟨hx, hb, hml, hown, hW⟩ (mt_AL_init l D cs Z _ hw) (mx_cwI hW ok_AL_init kw_41 rfl rfl ⟨Nat.le_of_ble_eq_true rfl, Nat.le_of_ble_eq_true rfl⟩) (mx_preS hK hZ hA hR) rfl rfl hl.1 rfl (lv_room (Nat.le_of_ble_eq_true rfl)) d_NJ_init_31 ⟨Nat.le_of_ble_eq_true rfl, Nat.le_of_ble_eq_true rfl⟩) hR hA (fun h16 H locs hw hR => ?_)
  try dsimp only at hw
  obtain ⟨t17, hw⟩ := hw
  refine mx_putF (ci := 0) (C := "NetJoins") (T := F_NJ) (N := 18) (v := va_rf (some q13)) (h' := sR h16 2 v0 (some q13)) hx hb hW hown hK.1 hR (a := v0) rfl t17 rfl i_NJ t_NJ t_NJ_ok n_NJ 2 2 (by decide) rfl kw_122 (fun _ h9 => h9) rfl hnm rfl (mx_rf_n _ rfl _).1 (mx_rf_n _ rfl _).2 d_NJ_init_34 rfl (toE_sR (ci := 0) (k := 2) t17 rfl) (fun H locs hR => ?_)
  obtain ⟨h18, eh18⟩ : ∃ z, z = sR h16 2 v0 (some q13) := ⟨_, rfl⟩
  rw [← eh18] at hR
  have hw := hw h18 eh18
  refine mx_aload_n (r := some v0) hx hb d_NJ_init_37 rfl (lv_at hl 0 rfl) ?_
  refine mx_new (ci := 9) (C := "java/util/ArrayList") (T := F_AL) (N := 3) hx hb hW hown hK.1 hR hA rfl i_AL t_AL t_AL_ok kw_39 kw_40 kw_4 (fun q j hj => nf_AL _ q j hj) (by decide) (by decide) d_NJ_init_38 (fun q19 H tq19 hR => ?_)
  refine W.widen (k := 4) (n := 12) (by decide) (by decide) ?_
  have hw := hw q19 tq19
  obtain ⟨h20, eh20⟩ : ∃ z, z = nH h18 q19 25 0 := ⟨_, rfl⟩
  rw [← eh20] at hR
  have hw := hw h20 eh20
  refine lv_dup hx hb d_NJ_init_41 (mx_rf_cat _) ?_
  refine mx_callv (va_runI (b := q19) (As := []) (rest := [va_rf (some q19), va_rf (some v0)]) ⟨hx, hb, hml, hown, hW⟩ (mt_AL_init l D cs Z _ hw) (mx_cwI hW ok_AL_init kw_41 rfl rfl ⟨Nat.le_of_ble_eq_true rfl, Nat.le_of_ble_eq_true rfl⟩) (mx_preS hK hZ hA hR) rfl rfl hl.1 rfl (lv_room (Nat.le_of_ble_eq_true rfl)) d_NJ_init_42 ⟨Nat.le_of_ble_eq_true rfl, Nat.le_of_ble_eq_true rfl⟩) hR hA (fun h22 H locs hw hR => ?_)
  try dsimp only at hw
  obtain ⟨t23, hw⟩ := hw
  refine mx_putF (ci := 0) (C := "NetJoins") (T := F_NJ) (N := 18) (v := va_rf (some q19)) (h' := sR h22 3 v0 (some q19)) hx hb hW hown hK.1 hR (a := v0) rfl t23 rfl i_NJ t_NJ t_NJ_ok n_NJ 3 2 (by decide) rfl kw_123 (fun _ h9 => h9) rfl hnm rfl (mx_rf_n _ rfl _).1 (mx_rf_n _ rfl _).2 d_NJ_init_45 rfl (toE_sR (ci := 0) (k := 3) t23 rfl) (fun H locs hR => ?_)
  obtain ⟨h24, eh24⟩ : ∃ z, z = sR h22 3 v0 (some q19) := ⟨_, rfl⟩
  rw [← eh24] at hR
  have hw := hw h24 eh24
  refine mx_aload_n (r := some v0) hx hb d_NJ_init_48 rfl (lv_at hl 0 rfl) ?_
  refine mx_new (ci := 9) (C := "java/util/ArrayList") (T := F_AL) (N := 3) hx hb hW hown hK.1 hR hA rfl i_AL t_AL t_AL_ok kw_39 kw_40 kw_4 (fun q j hj => nf_AL _ q j hj) (by decide) (by decide) d_NJ_init_49 (fun q25 H tq25 hR => ?_)
  refine W.widen (k := 5) (n := 15) (by decide) (by decide) ?_
  have hw := hw q25 tq25
  obtain ⟨h26, eh26⟩ : ∃ z, z = nH h24 q25 25 0 := ⟨_, rfl⟩
  rw [← eh26] at hR
  have hw := hw h26 eh26
  refine lv_dup hx hb d_NJ_init_52 (mx_rf_cat _) ?_
  refine mx_callv (va_runI (b := q25) (As := []) (rest := [va_rf (some q25), va_rf (some v0)]) ⟨hx, hb, hml, hown, hW⟩ (mt_AL_init l D cs Z _ hw) (mx_cwI hW ok_AL_init kw_41 rfl rfl ⟨Nat.le_of_ble_eq_true rfl, Nat.le_of_ble_eq_true rfl⟩) (mx_preS hK hZ hA hR) rfl rfl hl.1 rfl (lv_room (Nat.le_of_ble_eq_true rfl)) d_NJ_init_53 ⟨Nat.le_of_ble_eq_true rfl, Nat.le_of_ble_eq_true rfl⟩) hR hA (fun h28 H locs hw hR => ?_)
  try dsimp only at hw
  obtain ⟨t29, hw⟩ := hw
  refine mx_putF (ci := 0) (C := "NetJoins") (T := F_NJ) (N := 18) (v := va_rf (some q25)) (h' := sR h28 4 v0 (some q25)) hx hb hW hown hK.1 hR (a := v0) rfl t29 rfl i_NJ t_NJ t_NJ_ok n_NJ 4 2 (by decide) rfl kw_124 (fun _ h9 => h9) rfl hnm rfl (mx_rf_n _ rfl _).1 (mx_rf_n _ rfl _).2 d_NJ_init_56 rfl (toE_sR (ci := 0) (k := 4) t29 rfl) (fun H locs hR => ?_)
  obtain ⟨h30, eh30⟩ : ∃ z, z = sR h28 4 v0 (some q25) := ⟨_, rfl⟩
  rw [← eh30] at hR
  have hw := hw h30 eh30
  refine mx_aload_n (r := some v0) hx hb d_NJ_init_59 rfl (lv_at hl 0 rfl) ?_
  refine mx_new (ci := 9) (C := "java/util/ArrayList") (T := F_AL) (N := 3) hx hb hW hown hK.1 hR hA rfl i_AL t_AL t_AL_ok kw_39 kw_40 kw_4 (fun q j hj => nf_AL _ q j hj) (by decide) (by decide) d_NJ_init_60 (fun q31 H tq31 hR => ?_)
  refine W.widen (k := 6) (n := 18) (by decide) (by decide) ?_
  have hw := hw q31 tq31
  obtain ⟨h32, eh32⟩ : ∃ z, z = nH h30 q31 25 0 := ⟨_, rfl⟩
  rw [← eh32] at hR
  have hw := hw h32 eh32
  refine lv_dup hx hb d_NJ_init_63 (mx_rf_cat _) ?_
  refine mx_callv (va_runI (b := q31) (As := []) (rest := [va_rf (some q31), va_rf (some v0)]) ⟨hx, hb, hml, hown, hW⟩ (mt_AL_init l D cs Z _ hw) (mx_cwI hW ok_AL_init kw_41 rfl rfl ⟨Nat.le_of_ble_eq_true rfl, Nat.le_of_ble_eq_true rfl⟩) (mx_preS hK hZ hA hR) rfl rfl hl.1 rfl (lv_room (Nat.le_of_ble_eq_true rfl)) d_NJ_init_64 ⟨Nat.le_of_ble_eq_true rfl, Nat.le_of_ble_eq_true rfl⟩) hR hA (fun h34 H locs hw hR => ?_)
  try dsimp only at hw
  obtain ⟨t35, hw⟩ := hw
  refine mx_putF (ci := 0) (C := "NetJoins") (T := F_NJ) (N := 18) (v := va_rf (some q31)) (h' := sR h34 5 v0 (some q31)) hx hb hW hown hK.1 hR (a := v0) rfl t35 rfl i_NJ t_NJ t_NJ_ok n_NJ 5 2 (by decide) rfl kw_125 (fun _ h9 => h9) rfl hnm rfl (mx_rf_n _ rfl _).1 (mx_rf_n _ rfl _).2 d_NJ_init_67 rfl (toE_sR (ci := 0) (k := 5) t35 rfl) (fun H locs hR => ?_)
  obtain ⟨h36, eh36⟩ : ∃ z, z = sR h34 5 v0 (some q31) := ⟨_, rfl⟩
  rw [← eh36] at hR
  have hw := hw h36 eh36
  refine mx_aload_n (r := some v0) hx hb d_NJ_init_70 rfl (lv_at hl 0 rfl) ?_
  refine mx_new (ci := 9) (C := "java/util/ArrayList") (T := F_AL) (N := 3) hx hb hW hown hK.1 hR hA rfl i_AL t_AL t_AL_ok kw_39 kw_40 kw_4 (fun q j hj => nf_AL _ q j hj) (by decide) (by decide) d_NJ_init_71 (fun q37 H tq37 hR => ?_)
  refine W.widen (k := 7) (n := 21) (by decide) (by decide) ?_
  have hw := hw q37 tq37
  obtain ⟨h38, eh38⟩ : ∃ z, z = nH h36 q37 25 0 := ⟨_, rfl⟩
  rw [← eh38] at hR
  have hw := hw h38 eh38
  refine lv_dup hx hb d_NJ_init_74 (mx_rf_cat _) ?_
  refine mx_callv (va_runI (b := q37) (As := []) (rest := [va_rf (some q37), va_rf (some v0)]) ⟨hx, hb, hml, hown, hW⟩ (mt_AL_init l D cs Z _ hw) (mx_cwI hW ok_AL_init kw_41 rfl rfl ⟨Nat.le_of_ble_eq_true rfl, Nat.le_of_ble_eq_true rfl⟩) (mx_preS hK hZ hA hR) rfl rfl hl.1 rfl (lv_room (Nat.le_of_ble_eq_true rfl)) d_NJ_init_75 ⟨Nat.le_of_ble_eq_true rfl, Nat.le_of_ble_eq_true rfl⟩) hR hA (fun h40 H locs hw hR => ?_)
  try dsimp only at hw
  obtain ⟨t41, hw⟩ := hw
  refine mx_putF (ci := 0) (C := "NetJoins") (T := F_NJ) (N := 18) (v := va_rf (some q37)) (h' := sR h40 6 v0 (some q37)) hx hb hW hown hK.1 hR (a := v0) rfl t41 rfl i_NJ t_NJ t_NJ_ok n_NJ 6 2 (by decide) rfl kw_126 (fun _ h9 => h9) rfl hnm rfl (mx_rf_n _ rfl _).1 (mx_rf_n _ rfl _).2 d_NJ_init_78 rfl (toE_sR (ci := 0) (k := 6) t41 rfl) (fun H locs hR => ?_)
  obtain ⟨h42, eh42⟩ : ∃ z, z = sR h40 6 v0 (some q37) := ⟨_, rfl⟩
  rw [← eh42] at hR
  have hw := hw h42 eh42
  refine mx_aload_n (r := some v0) hx hb d_NJ_init_81 rfl (lv_at hl 0 rfl) ?_
  refine mx_new (ci := 9) (C := "java/util/ArrayList") (T := F_AL) (N := 3) hx hb hW hown hK.1 hR hA rfl i_AL t_AL t_AL_ok kw_39 kw_40 kw_4 (fun q j hj => nf_AL _ q j hj) (by decide) (by decide) d_NJ_init_82 (fun q43 H tq43 hR => ?_)
  refine W.widen (k := 8) (n := 24) (by decide) (by decide) ?_
  have hw := hw q43 tq43
  obtain ⟨h44, eh44⟩ : ∃ z, z = nH h42 q43 25 0 := ⟨_, rfl⟩
  rw [← eh44] at hR
  have hw := hw h44 eh44
  refine lv_dup hx hb d_NJ_init_85 (mx_rf_cat _) ?_
  refine mx_callv (va_runI (b := q43) (As := []) (rest := [va_rf (some q43), va_rf (some v0)]) ⟨hx, hb, hml, hown, hW⟩ (mt_AL_init l D cs Z _ hw) (mx_cwI hW ok_AL_init kw_41 rfl rfl ⟨Nat.le_of_ble_eq_true rfl, Nat.le_of_ble_eq_true rfl⟩) (mx_preS hK hZ hA hR) rfl rfl hl.1 rfl (lv_room (Nat.le_of_ble_eq_true rfl)) d_NJ_init_86 ⟨Nat.le_of_ble_eq_true rfl, Nat.le_of_ble_eq_true rfl⟩) hR hA (fun h46 H locs hw hR => ?_)
  try dsimp only at hw
  obtain ⟨t47, hw⟩ := hw
  refine mx_putF (ci := 0) (C := "NetJoins") (T := F_NJ) (N := 18) (v := va_rf (some q43)) (h' := sR h46 7 v0 (some q43)) hx hb hW hown hK.1 hR (a := v0) rfl t47 rfl i_NJ t_NJ t_NJ_ok n_NJ 7 2 (by decide) rfl kw_127 (fun _ h9 => h9) rfl hnm rfl (mx_rf_n _ rfl _).1 (mx_rf_n _ rfl _).2 d_NJ_init_89 rfl (toE_sR (ci := 0) (k := 7) t47 rfl) (fun H locs hR => ?_)
  obtain ⟨h48, eh48⟩ : ∃ z, z = sR h46 7 v0 (some q43) := ⟨_, rfl⟩
  rw [← eh48] at hR
  have hw := hw h48 eh48
  refine mx_aload_n (r := some v0) hx hb d_NJ_init_92 rfl (lv_at hl 0 rfl) ?_
  refine lv_sipush (v := 1000) hx hb d_NJ_init_93 (by decide) ?_
  refine mx_arr_i (N' := 1000) hx hb hW hK.1 hR hA kw_84 (by decide) (by decide) (by decide) (by decide) (by decide) d_NJ_init_96 (fun q49 H tq49 hR => ?_)
  refine W.widen (k := 9) (n := 1024) (by first | decide | omega) (by first | decide | omega) ?_
  have hw := hw q49 tq49
  obtain ⟨h50, eh50⟩ : ∃ z, z = nH h48 q49 1 1000 := ⟨_, rfl⟩
  rw [← eh50] at hR
  have hw := hw h50 eh50
  obtain ⟨t51, hw⟩ := hw
  refine mx_putF (ci := 0) (C := "NetJoins") (T := F_NJ) (N := 18) (v := va_rf (some q49)) (h' := sR h50 8 v0 (some q49)) hx hb hW hown hK.1 hR (a := v0) rfl t51 rfl i_NJ t_NJ t_NJ_ok n_NJ 8 2 (by decide) rfl kw_128 (fun _ h9 => h9) rfl hnm rfl (mx_rf_n _ rfl _).1 (mx_rf_n _ rfl _).2 d_NJ_init_98 rfl (toE_sR (ci := 0) (k := 8) t51 rfl) (fun H locs hR => ?_)
  obtain ⟨h52, eh52⟩ : ∃ z, z = sR h50 8 v0 (some q49) := ⟨_, rfl⟩
  rw [← eh52] at hR
  have hw := hw h52 eh52
  refine mx_aload_n (r := some v0) hx hb d_NJ_init_101 rfl (lv_at hl 0 rfl) ?_
  refine mx_new (ci := 2) (C := "NetJoins$Joins") (T := F_Joins) (N := 1) hx hb hW hown hK.1 hR hA rfl i_Joins t_Joins t_Joins_ok kw_65 kw_66 kw_5 (fun q j hj => nf_Joins _ q j hj) (by decide) (by decide) d_NJ_init_102 (fun q53 H tq53 hR => ?_)
  refine W.widen (k := 10) (n := 1025) (by decide) (by decide) ?_
  have hw := hw q53 tq53
  obtain ⟨h54, eh54⟩ : ∃ z, z = nH h52 q53 18 0 := ⟨_, rfl⟩
  rw [← eh54] at hR
  have hw := hw h54 eh54
  refine lv_dup hx hb d_NJ_init_105 (mx_rf_cat _) ?_
  refine lv_iconst (v := 1) hx hb d_NJ_init_106 (by decide) ?_
  refine lv_sipush (v := 220) hx hb d_NJ_init_107 (by decide) ?_
  refine mx_callv (va_runI (b := q53) (As := [.int (1 : Int32), .int (220 : Int32)]) (rest := [va_rf (some q53), va_rf (some v0)]) ⟨hx, hb, hml, hown, hW⟩ (mt_Joins_init l D cs Z _ hw) (mx_cwI hW ok_Joins_init kw_67 rfl rfl ⟨Nat.le_of_ble_eq_true rfl, Nat.le_of_ble_eq_true rfl⟩) (mx_preS hK hZ hA hR) rfl rfl hl.1 rfl (lv_room (Nat.le_of_ble_eq_true rfl)) d_NJ_init_110 ⟨Nat.le_of_ble_eq_true rfl, Nat.le_of_ble_eq_true rfl⟩) hR hA (fun h56 H locs hw hR => ?_)
  refine W.widen (k := 29) (n := 2102) (by decide) (by decide) ?_
  try dsimp only at hw
  obtain ⟨t57, hw⟩ := hw
  refine mx_putF (ci := 0) (C := "NetJoins") (T := F_NJ) (N := 18) (v := va_rf (some q53)) (h' := sR h56 9 v0 (some q53)) hx hb hW hown hK.1 hR (a := v0) rfl t57 rfl i_NJ t_NJ t_NJ_ok n_NJ 9 2 (by decide) rfl kw_129 (fun _ h9 => h9) rfl hnm rfl (mx_rf_n _ rfl _).1 (mx_rf_n _ rfl _).2 d_NJ_init_113 rfl (toE_sR (ci := 0) (k := 9) t57 rfl) (fun H locs hR => ?_)
  obtain ⟨h58, eh58⟩ : ∃ z, z = sR h56 9 v0 (some q53) := ⟨_, rfl⟩
  rw [← eh58] at hR
  have hw := hw h58 eh58
  refine mx_aload_n (r := some v0) hx hb d_NJ_init_116 rfl (lv_at hl 0 rfl) ?_
  refine mx_new (ci := 2) (C := "NetJoins$Joins") (T := F_Joins) (N := 1) hx hb hW hown hK.1 hR hA rfl i_Joins t_Joins t_Joins_ok kw_65 kw_66 kw_5 (fun q j hj => nf_Joins _ q j hj) (by decide) (by decide) d_NJ_init_117 (fun q59 H tq59 hR => ?_)
  refine W.widen (k := 30) (n := 2103) (by decide) (by decide) ?_
  have hw := hw q59 tq59
  obtain ⟨h60, eh60⟩ : ∃ z, z = nH h58 q59 18 0 := ⟨_, rfl⟩
  rw [← eh60] at hR
  have hw := hw h60 eh60
  refine lv_dup hx hb d_NJ_init_120 (mx_rf_cat _) ?_
  refine lv_bipush (v := 17) hx hb d_NJ_init_121 (by decide) ?_
  refine lv_sipush (v := 1060) hx hb d_NJ_init_123 (by decide) ?_
  refine mx_callv (va_runI (b := q59) (As := [.int (17 : Int32), .int (1060 : Int32)]) (rest := [va_rf (some q59), va_rf (some v0)]) ⟨hx, hb, hml, hown, hW⟩ (mt_Joins_init l D cs Z _ hw) (mx_cwI hW ok_Joins_init kw_67 rfl rfl ⟨Nat.le_of_ble_eq_true rfl, Nat.le_of_ble_eq_true rfl⟩) (mx_preS hK hZ hA hR) rfl rfl hl.1 rfl (lv_room (Nat.le_of_ble_eq_true rfl)) d_NJ_init_126 ⟨Nat.le_of_ble_eq_true rfl, Nat.le_of_ble_eq_true rfl⟩) hR hA (fun h62 H locs hw hR => ?_)
  refine W.widen (k := 49) (n := 3180) (by decide) (by decide) ?_
  try dsimp only at hw
  obtain ⟨t63, hw⟩ := hw
  refine mx_putF (ci := 0) (C := "NetJoins") (T := F_NJ) (N := 18) (v := va_rf (some q59)) (h' := sR h62 10 v0 (some q59)) hx hb hW hown hK.1 hR (a := v0) rfl t63 rfl i_NJ t_NJ t_NJ_ok n_NJ 10 2 (by decide) rfl kw_130 (fun _ h9 => h9) rfl hnm rfl (mx_rf_n _ rfl _).1 (mx_rf_n _ rfl _).2 d_NJ_init_129 rfl (toE_sR (ci := 0) (k := 10) t63 rfl) (fun H locs hR => ?_)
  obtain ⟨h64, eh64⟩ : ∃ z, z = sR h62 10 v0 (some q59) := ⟨_, rfl⟩
  rw [← eh64] at hR
  have hw := hw h64 eh64
  refine mx_aload_n (r := some v0) hx hb d_NJ_init_132 rfl (lv_at hl 0 rfl) ?_
  refine mx_new (ci := 3) (C := "NetJoins$NetTable") (T := F_Tab) (N := 7) hx hb hW hown hK.1 hR hA rfl i_Tab t_Tab t_Tab_ok kw_85 kw_86 kw_6 (fun q j hj => nf_Tab _ q j hj) (by decide) (by decide) d_NJ_init_133 (fun q65 H tq65 hR => ?_)
  refine W.widen (k := 50) (n := 3187) (by decide) (by decide) ?_
  have hw := hw q65 tq65
  obtain ⟨h66, eh66⟩ : ∃ z, z = nH h64 q65 19 0 := ⟨_, rfl⟩
  rw [← eh66] at hR
  have hw := hw h66 eh66
  refine lv_dup hx hb d_NJ_init_136 (mx_rf_cat _) ?_
  refine mx_callv (va_runI (b := q65) (As := []) (rest := [va_rf (some q65), va_rf (some v0)]) ⟨hx, hb, hml, hown, hW⟩ (mt_Tab_init l D cs Z _ hw) (mx_cwI hW ok_Tab_init kw_87 rfl rfl ⟨Nat.le_of_ble_eq_true rfl, Nat.le_of_ble_eq_true rfl⟩) (mx_preS hK hZ hA hR) rfl rfl hl.1 rfl (lv_room (Nat.le_of_ble_eq_true rfl)) d_NJ_init_137 ⟨Nat.le_of_ble_eq_true rfl, Nat.le_of_ble_eq_true rfl⟩) hR hA (fun h68 H locs hw hR => ?_)
  refine W.widen (k := 55) (n := 7987) (by decide) (by decide) ?_
  try dsimp only at hw
  obtain ⟨t69, hw⟩ := hw
  refine mx_putF (ci := 0) (C := "NetJoins") (T := F_NJ) (N := 18) (v := va_rf (some q65)) (h' := sR h68 11 v0 (some q65)) hx hb hW hown hK.1 hR (a := v0) rfl t69 rfl i_NJ t_NJ t_NJ_ok n_NJ 11 2 (by decide) rfl kw_131 (fun _ h9 => h9) rfl hnm rfl (mx_rf_n _ rfl _).1 (mx_rf_n _ rfl _).2 d_NJ_init_140 rfl (toE_sR (ci := 0) (k := 11) t69 rfl) (fun H locs hR => ?_)
  obtain ⟨h70, eh70⟩ : ∃ z, z = sR h68 11 v0 (some q65) := ⟨_, rfl⟩
  rw [← eh70] at hR
  have hw := hw h70 eh70
  refine mx_aload_n (r := some v0) hx hb d_NJ_init_143 rfl (lv_at hl 0 rfl) ?_
  refine lv_sipush (v := 961) hx hb d_NJ_init_144 (by decide) ?_
  refine mx_arr_i (N' := 961) hx hb hW hK.1 hR hA kw_84 (by decide) (by decide) (by decide) (by decide) (by decide) d_NJ_init_147 (fun q71 H tq71 hR => ?_)
  refine W.widen (k := 56) (n := 8948) (by first | decide | omega) (by first | decide | omega) ?_
  have hw := hw q71 tq71
  obtain ⟨h72, eh72⟩ : ∃ z, z = nH h70 q71 1 961 := ⟨_, rfl⟩
  rw [← eh72] at hR
  have hw := hw h72 eh72
  obtain ⟨t73, hw⟩ := hw
  refine mx_putF (ci := 0) (C := "NetJoins") (T := F_NJ) (N := 18) (v := va_rf (some q71)) (h' := sR h72 12 v0 (some q71)) hx hb hW hown hK.1 hR (a := v0) rfl t73 rfl i_NJ t_NJ t_NJ_ok n_NJ 12 2 (by decide) rfl kw_132 (fun _ h9 => h9) rfl hnm rfl (mx_rf_n _ rfl _).1 (mx_rf_n _ rfl _).2 d_NJ_init_149 rfl (toE_sR (ci := 0) (k := 12) t73 rfl) (fun H locs hR => ?_)
  obtain ⟨h74, eh74⟩ : ∃ z, z = sR h72 12 v0 (some q71) := ⟨_, rfl⟩
  rw [← eh74] at hR
  have hw := hw h74 eh74
  refine mx_aload_n (r := some v0) hx hb d_NJ_init_152 rfl (lv_at hl 0 rfl) ?_
  refine lv_sipush (v := 960) hx hb d_NJ_init_153 (by decide) ?_
  refine mx_arr_i (N' := 960) hx hb hW hK.1 hR hA kw_84 (by decide) (by decide) (by decide) (by decide) (by decide) d_NJ_init_156 (fun q75 H tq75 hR => ?_)
  refine W.widen (k := 57) (n := 9908) (by first | decide | omega) (by first | decide | omega) ?_
  have hw := hw q75 tq75
  obtain ⟨h76, eh76⟩ : ∃ z, z = nH h74 q75 1 960 := ⟨_, rfl⟩
  rw [← eh76] at hR
  have hw := hw h76 eh76
  obtain ⟨t77, hw⟩ := hw
  refine mx_putF (ci := 0) (C := "NetJoins") (T := F_NJ) (N := 18) (v := va_rf (some q75)) (h' := sR h76 13 v0 (some q75)) hx hb hW hown hK.1 hR (a := v0) rfl t77 rfl i_NJ t_NJ t_NJ_ok n_NJ 13 2 (by decide) rfl kw_133 (fun _ h9 => h9) rfl hnm rfl (mx_rf_n _ rfl _).1 (mx_rf_n _ rfl _).2 d_NJ_init_158 rfl (toE_sR (ci := 0) (k := 13) t77 rfl) (fun H locs hR => ?_)
  obtain ⟨h78, eh78⟩ : ∃ z, z = sR h76 13 v0 (some q75) := ⟨_, rfl⟩
  rw [← eh78] at hR
  have hw := hw h78 eh78
  refine mx_aload_n (r := some v0) hx hb d_NJ_init_161 rfl (lv_at hl 0 rfl) ?_
  refine lv_sipush (v := 1080) hx hb d_NJ_init_162 (by decide) ?_
  refine mx_arr_i (N' := 1080) hx hb hW hK.1 hR hA kw_84 (by decide) (by decide) (by decide) (by decide) (by decide) d_NJ_init_165 (fun q79 H tq79 hR => ?_)
  refine W.widen (k := 58) (n := 10988) (by first | decide | omega) (by first | decide | omega) ?_
  have hw := hw q79 tq79
  obtain ⟨h80, eh80⟩ : ∃ z, z = nH h78 q79 1 1080 := ⟨_, rfl⟩
  rw [← eh80] at hR
  have hw := hw h80 eh80
  obtain ⟨t81, hw⟩ := hw
  refine mx_putF (ci := 0) (C := "NetJoins") (T := F_NJ) (N := 18) (v := va_rf (some q79)) (h' := sR h80 15 v0 (some q79)) hx hb hW hown hK.1 hR (a := v0) rfl t81 rfl i_NJ t_NJ t_NJ_ok n_NJ 15 2 (by decide) rfl kw_135 (fun _ h9 => h9) rfl hnm rfl (mx_rf_n _ rfl _).1 (mx_rf_n _ rfl _).2 d_NJ_init_167 rfl (toE_sR (ci := 0) (k := 15) t81 rfl) (fun H locs hR => ?_)
  obtain ⟨h82, eh82⟩ : ∃ z, z = sR h80 15 v0 (some q79) := ⟨_, rfl⟩
  rw [← eh82] at hR
  have hw := hw h82 eh82
  exact mx_vret hx hb hr hlocks hR hw d_NJ_init_170
