set_option maxHeartbeats 4000000 in
set_option maxRecDepth 100000 in
theorem mt_ABC_init (l : Launch) (D : va_G) (cs : CS) (Z : Nat → Nat) (sz : Nat) {post : HS → Prop} {h : HS} {v0 : Nat}  (hw : wp_ABC_init Z post h v0 ) : Met l y_ABC_init (Cond.code y_ABC_init c_ABC_init 1 none :: WA) ({ frames := 2, cells := 0, slots := 0, locals := 100 } : Room) (mPc D cs Z h sz [va_rf (some v0)]) (va_Qv post (mB D cs h sz) (fA h sz)) 0 0 (fA h sz) := by
  refine mx_met (fun sz => va_Qv post (mB D cs h sz) (fA h sz)) (by decide) (by simp [lg_sl, mx_rf_cat, cat_i, cat_l]) ?_
  intro p e s m args below meth c C hR ls hl
  have hl : lv_has ls 1 [(0, va_rf (some v0))] := hl
  obtain ⟨hx, hb, hr, hml, hown, hW, hlocks, hnm, hK, hZ⟩ := id C
  have hown : s.vm.findClass "java/util/AbstractCollection" = some m.cls := hown
  have hA : ∀ q, s.heap.size ≤ q → fA h s.heap.size q := fun _ h => Or.inr h
  unfold wp_ABC_init at hw
  refine mx_aload_n (r := some v0) hx hb d_ABC_init_0 rfl (lv_at hl 0 rfl) ?_
  refine W.objInit hx hb hown (hW _ kw_50) (hW _ kw_37) (hW _ kw_38) rfl (by rw [hml]; exact hl.1) rfl d_ABC_init_1 (Nat.le_of_ble_eq_true rfl) (Nat.le_of_ble_eq_true rfl) ?_
  refine W.eq (g2 := F0 m 4 ls []) rfl ?_
  exact mx_vret hx hb hr hlocks hR hw d_ABC_init_4
set_option maxHeartbeats 4000000 in
set_option maxRecDepth 100000 in
theorem mt_ABL_init (l : Launch) (D : va_G) (cs : CS) (Z : Nat → Nat) (sz : Nat) {post : HS → Prop} {h : HS} {v0 : Nat}  (hw : wp_ABL_init Z post h v0 ) : Met l y_ABL_init (Cond.code y_ABL_init c_ABL_init 1 none :: WA) ({ frames := 3, cells := 0, slots := 0, locals := 120 } : Room) (mPc D cs Z h sz [va_rf (some v0)]) (va_Qv post (mB D cs h sz) (fA h sz)) 0 0 (fA h sz) := by
  refine mx_met (fun sz => va_Qv post (mB D cs h sz) (fA h sz)) (by decide) (by simp [lg_sl, mx_rf_cat, cat_i, cat_l]) ?_
  intro p e s m args below meth c C hR ls hl
  have hl : lv_has ls 1 [(0, va_rf (some v0))] := hl
  obtain ⟨hx, hb, hr, hml, hown, hW, hlocks, hnm, hK, hZ⟩ := id C
  have hown : s.vm.findClass "java/util/AbstractList" = some m.cls := hown
  have hA : ∀ q, s.heap.size ≤ q → fA h s.heap.size q := fun _ h => Or.inr h
  unfold wp_ABL_init at hw
  refine mx_aload_n (r := some v0) hx hb d_ABL_init_0 rfl (lv_at hl 0 rfl) ?_
  refine mx_callv (va_runI (b := v0) (As := []) (rest := []) ⟨hx, hb, hml, hown, hW⟩ (mt_ABC_init l D cs Z _ hw) (mx_cwI hW ok_ABC_init kw_47 rfl rfl ⟨Nat.le_of_ble_eq_true rfl, Nat.le_of_ble_eq_true rfl⟩) (mx_preS hK hZ hA hR) rfl rfl hl.1 rfl (lv_room (Nat.le_of_ble_eq_true rfl)) d_ABL_init_1 ⟨Nat.le_of_ble_eq_true rfl, Nat.le_of_ble_eq_true rfl⟩) hR hA (fun h2 H locs hw hR => ?_)
  try dsimp only at hw
  refine mx_aload_n (r := some v0) hx hb d_ABL_init_4 rfl (lv_at hl 0 rfl) ?_
  refine lv_iconst (v := 0) hx hb d_ABL_init_5 (by decide) ?_
  obtain ⟨t3, hw⟩ := hw
  refine mx_put (ci := 9) (C := "java/util/ArrayList") (T := F_AL) (N := 3) (v := .int (0 : Int32)) (h' := sI h2 902 v0 (0 : Int32)) hx hb hW hown hK.1 hR (a := v0) rfl t3 rfl i_AL t_AL t_AL_ok n_AL 2 0 (by decide) rfl kw_55 (fun _ h9 => h9) rfl rfl rfl d_ABL_init_6 rfl (toE_sI (ci := 9) (k := 2) t3 rfl) (fun H locs hR => ?_)
  obtain ⟨h4, eh4⟩ : ∃ z, z = sI h2 902 v0 (0 : Int32) := ⟨_, rfl⟩
  rw [← eh4] at hR
  have hw := hw h4 eh4
  exact mx_vret hx hb hr hlocks hR hw d_ABL_init_9
set_option maxHeartbeats 4000000 in
set_option maxRecDepth 100000 in
theorem mt_AL_init (l : Launch) (D : va_G) (cs : CS) (Z : Nat → Nat) (sz : Nat) {post : HS → Prop} {h : HS} {v0 : Nat}  (hw : wp_AL_init Z post h v0 ) : Met l y_AL_init (Cond.code y_AL_init c_AL_init 1 none :: WA) ({ frames := 4, cells := 0, slots := 0, locals := 140 } : Room) (mPc D cs Z h sz [va_rf (some v0)]) (va_Qv post (mB D cs h sz) (fA h sz)) 0 0 (fA h sz) := by
  refine mx_met (fun sz => va_Qv post (mB D cs h sz) (fA h sz)) (by decide) (by simp [lg_sl, mx_rf_cat, cat_i, cat_l]) ?_
  intro p e s m args below meth c C hR ls hl
  have hl : lv_has ls 1 [(0, va_rf (some v0))] := hl
  obtain ⟨hx, hb, hr, hml, hown, hW, hlocks, hnm, hK, hZ⟩ := id C
  have hown : s.vm.findClass "java/util/ArrayList" = some m.cls := hown
  have hA : ∀ q, s.heap.size ≤ q → fA h s.heap.size q := fun _ h => Or.inr h
  unfold wp_AL_init at hw
  refine mx_aload_n (r := some v0) hx hb d_AL_init_0 rfl (lv_at hl 0 rfl) ?_
  refine mx_callv (va_runI (b := v0) (As := []) (rest := []) ⟨hx, hb, hml, hown, hW⟩ (mt_ABL_init l D cs Z _ hw) (mx_cwI hW ok_ABL_init kw_44 rfl rfl ⟨Nat.le_of_ble_eq_true rfl, Nat.le_of_ble_eq_true rfl⟩) (mx_preS hK hZ hA hR) rfl rfl hl.1 rfl (lv_room (Nat.le_of_ble_eq_true rfl)) d_AL_init_1 ⟨Nat.le_of_ble_eq_true rfl, Nat.le_of_ble_eq_true rfl⟩) hR hA (fun h2 H locs hw hR => ?_)
  try dsimp only at hw
  refine mx_aload_n (r := some v0) hx hb d_AL_init_4 rfl (lv_at hl 0 rfl) ?_
  refine mx_empty hx hb hW hown hZ hR kw_51 d_AL_init_5 ?_
  obtain ⟨t3, hw⟩ := hw
  refine mx_put (ci := 9) (C := "java/util/ArrayList") (T := F_AL) (N := 3) (v := va_rf (some (Z 0))) (h' := sR h2 900 v0 (some (Z 0))) hx hb hW hown hK.1 hR (a := v0) rfl t3 rfl i_AL t_AL t_AL_ok n_AL 0 2 (by decide) rfl kw_53 (fun _ h9 => h9) rfl (mx_rf_n _ rfl _).1 (mx_rf_n _ rfl _).2 d_AL_init_8 rfl (toE_sR (ci := 9) (k := 0) t3 rfl) (fun H locs hR => ?_)
  obtain ⟨h4, eh4⟩ : ∃ z, z = sR h2 900 v0 (some (Z 0)) := ⟨_, rfl⟩
  rw [← eh4] at hR
  have hw := hw h4 eh4
  exact mx_vret hx hb hr hlocks hR hw d_AL_init_11
set_option maxHeartbeats 4000000 in
set_option maxRecDepth 100000 in
theorem mt_AL_size (l : Launch) (D : va_G) (cs : CS) (Z : Nat → Nat) (sz : Nat) {post : Int32 → HS → Prop} {h : HS} {v0 : Nat}  (hw : wp_AL_size Z post h v0 ) : Met l y_AL_size (Cond.code y_AL_size c_AL_size 1 (some .int) :: WA) ({ frames := 2, cells := 0, slots := 0, locals := 100 } : Room) (mPc D cs Z h sz [va_rf (some v0)]) (va_Qi post (mB D cs h sz) (fA h sz)) 0 0 (fA h sz) := by
  refine mx_met (fun sz => va_Qi post (mB D cs h sz) (fA h sz)) (by decide) (by simp [lg_sl, mx_rf_cat, cat_i, cat_l]) ?_
  intro p e s m args below meth c C hR ls hl
  have hl : lv_has ls 1 [(0, va_rf (some v0))] := hl
  obtain ⟨hx, hb, hr, hml, hown, hW, hlocks, hnm, hK, hZ⟩ := id C
  have hown : s.vm.findClass "java/util/ArrayList" = some m.cls := hown
  have hA : ∀ q, s.heap.size ≤ q → fA h s.heap.size q := fun _ h => Or.inr h
  unfold wp_AL_size at hw
  refine mx_aload_n (r := some v0) hx hb d_AL_size_0 rfl (lv_at hl 0 rfl) ?_
  obtain ⟨t1, hw⟩ := hw
  refine mx_get (ci := 9) (C := "java/util/ArrayList") (T := F_AL) (N := 3) hx hb hW hown hK.1 hR (a := v0) rfl t1 rfl i_AL 1 0 (by decide) rfl kw_54 (fun _ h9 => h9) d_AL_size_1 ?_
  exact mx_iret hx hb hr hlocks hR hw d_AL_size_4
set_option maxHeartbeats 4000000 in
set_option maxRecDepth 100000 in
theorem mt_PRE_checkIndex (l : Launch) (D : va_G) (cs : CS) (Z : Nat → Nat) (sz : Nat) {post : Int32 → HS → Prop} {h : HS} {x0 : Int32} {x1 : Int32} {x2 : Option Nat} (hw : wp_PRE_checkIndex Z post h x0 x1 x2) : Met l y_PRE_checkIndex (Cond.code y_PRE_checkIndex c_PRE_checkIndex 3 (some .int) :: WA) ({ frames := 2, cells := 0, slots := 0, locals := 100 } : Room) (mPc D cs Z h sz [.int x0, .int x1, va_rf x2]) (va_Qi post (mB D cs h sz) (fA h sz)) 0 0 (fA h sz) := by
  refine mx_met (fun sz => va_Qi post (mB D cs h sz) (fA h sz)) (by decide) (by simp [lg_sl, mx_rf_cat, cat_i, cat_l]) ?_
  intro p e s m args below meth c C hR ls hl
  have hl : lv_has ls 3 [(0, .int x0), (1, .int x1), (2, va_rf x2)] := by simpa [lv_args, mx_rf_cat, cat_i, cat_l] using hl
  obtain ⟨hx, hb, hr, hml, hown, hW, hlocks, hnm, hK, hZ⟩ := id C
  have hown : s.vm.findClass "jdk/internal/util/Preconditions" = some m.cls := hown
  have hA : ∀ q, s.heap.size ≤ q → fA h s.heap.size q := fun _ h => Or.inr h
  unfold wp_PRE_checkIndex at hw
  refine lv_iload_n hx hb d_PRE_checkIndex_0 rfl (lv_at hl 0 rfl) ?_
  refine lv_if_lt (tgt := 9) hx hb d_PRE_checkIndex_1 (by decide) (fun c1 => ?_) (fun c1 => ?_)
  · have hw := hw.1 c1
    exact hw.elim
  · have hw := hw.2 c1
    refine lv_iload_n hx hb d_PRE_checkIndex_4 rfl (lv_at hl 0 rfl) ?_
    refine lv_iload_n hx hb d_PRE_checkIndex_5 rfl (lv_at hl 1 rfl) ?_
    refine lv_icmp_lt (tgt := 16) hx hb d_PRE_checkIndex_6 (by decide) (fun c2 => ?_) (fun c2 => ?_)
    · have hw := hw.1 c2
      refine lv_iload_n hx hb d_PRE_checkIndex_16 rfl (lv_at hl 0 rfl) ?_
      exact mx_iret hx hb hr hlocks hR hw d_PRE_checkIndex_17
    · have hw := hw.2 c2
      exact hw.elim
set_option maxHeartbeats 4000000 in
set_option maxRecDepth 100000 in
theorem mt_OBJ_checkIndex (l : Launch) (D : va_G) (cs : CS) (Z : Nat → Nat) (sz : Nat) {post : Int32 → HS → Prop} {h : HS} {x0 : Int32} {x1 : Int32} (hw : wp_OBJ_checkIndex Z post h x0 x1) : Met l y_OBJ_checkIndex (Cond.code y_OBJ_checkIndex c_OBJ_checkIndex 2 (some .int) :: WA) ({ frames := 3, cells := 0, slots := 0, locals := 122 } : Room) (mPc D cs Z h sz [.int x0, .int x1]) (va_Qi post (mB D cs h sz) (fA h sz)) 0 0 (fA h sz) := by
  refine mx_met (fun sz => va_Qi post (mB D cs h sz) (fA h sz)) (by decide) (by simp [lg_sl, mx_rf_cat, cat_i, cat_l]) ?_
  intro p e s m args below meth c C hR ls hl
  have hl : lv_has ls 2 [(0, .int x0), (1, .int x1)] := hl
  obtain ⟨hx, hb, hr, hml, hown, hW, hlocks, hnm, hK, hZ⟩ := id C
  have hown : s.vm.findClass "java/util/Objects" = some m.cls := hown
  have hA : ∀ q, s.heap.size ≤ q → fA h s.heap.size q := fun _ h => Or.inr h
  unfold wp_OBJ_checkIndex at hw
  refine lv_iload_n hx hb d_OBJ_checkIndex_0 rfl (lv_at hl 0 rfl) ?_
  refine lv_iload_n hx hb d_OBJ_checkIndex_1 rfl (lv_at hl 1 rfl) ?_
  refine mx_null hx hb d_OBJ_checkIndex_2 ?_
  refine mx_calli (va_runS (As := [.int x0, .int x1, va_rf none]) (rest := []) ⟨hx, hb, hml, hown, hW⟩ (mt_PRE_checkIndex l D cs Z _ hw) (mx_cwS hW ok_PRE_checkIndex kw_203 rfl rfl ⟨Nat.le_of_ble_eq_true rfl, Nat.le_of_ble_eq_true rfl⟩) (mx_preS hK hZ hA hR) rfl rfl hl.1 rfl (lv_room (Nat.le_of_ble_eq_true rfl)) d_OBJ_checkIndex_3 ⟨Nat.le_of_ble_eq_true rfl, Nat.le_of_ble_eq_true rfl⟩) hR hA (fun r1 h2 H locs hw hR => ?_)
  try dsimp only at hw
  exact mx_iret hx hb hr hlocks hR hw d_OBJ_checkIndex_6
set_option maxHeartbeats 4000000 in
set_option maxRecDepth 100000 in
theorem mt_AL_elementData (l : Launch) (D : va_G) (cs : CS) (Z : Nat → Nat) (sz : Nat) {post : Option Nat → HS → Prop} {h : HS} {v0 : Nat} {x1 : Int32} (hw : wp_AL_elementData Z post h v0 x1) : Met l y_AL_elementData (Cond.code y_AL_elementData c_AL_elementData 2 (some (.object "java/lang/Object")) :: WA) ({ frames := 2, cells := 0, slots := 0, locals := 100 } : Room) (mPc D cs Z h sz [va_rf (some v0), .int x1]) (va_Qq post (mB D cs h sz) (fA h sz)) 0 0 (fA h sz) := by
  refine mx_met (fun sz => va_Qq post (mB D cs h sz) (fA h sz)) (by decide) (by simp [lg_sl, mx_rf_cat, cat_i, cat_l]) ?_
  intro p e s m args below meth c C hR ls hl
  have hl : lv_has ls 2 [(0, va_rf (some v0)), (1, .int x1)] := hl
  obtain ⟨hx, hb, hr, hml, hown, hW, hlocks, hnm, hK, hZ⟩ := id C
  have hown : s.vm.findClass "java/util/ArrayList" = some m.cls := hown
  have hA : ∀ q, s.heap.size ≤ q → fA h s.heap.size q := fun _ h => Or.inr h
  unfold wp_AL_elementData at hw
  refine mx_aload_n (r := some v0) hx hb d_AL_elementData_0 rfl (lv_at hl 0 rfl) ?_
  obtain ⟨t1, hw⟩ := hw
  refine mx_get (ci := 9) (C := "java/util/ArrayList") (T := F_AL) (N := 3) hx hb hW hown hK.1 hR (a := v0) rfl t1 rfl i_AL 0 2 (by decide) rfl kw_53 (fun _ h9 => h9) d_AL_elementData_1 ?_
  refine lv_iload_n hx hb d_AL_elementData_4 rfl (lv_at hl 1 rfl) ?_
  obtain ⟨a2, ea2, t3, t3i, hw⟩ := hw
  refine mx_oald hx hb hK.1 hR (a := a2) ea2 t3 t3i d_AL_elementData_5 ?_
  exact mx_aret hx hb hr (Or.inl ⟨_, rfl⟩) hlocks hR hw d_AL_elementData_6
set_option maxHeartbeats 4000000 in
set_option maxRecDepth 100000 in
theorem mt_AL_get (l : Launch) (D : va_G) (cs : CS) (Z : Nat → Nat) (sz : Nat) {post : Option Nat → HS → Prop} {h : HS} {v0 : Nat} {x1 : Int32} (hw : wp_AL_get Z post h v0 x1) : Met l y_AL_get (Cond.code y_AL_get c_AL_get 2 (some (.object "java/lang/Object")) :: WA) ({ frames := 4, cells := 0, slots := 0, locals := 143 } : Room) (mPc D cs Z h sz [va_rf (some v0), .int x1]) (va_Qq post (mB D cs h sz) (fA h sz)) 0 0 (fA h sz) := by
  refine mx_met (fun sz => va_Qq post (mB D cs h sz) (fA h sz)) (by decide) (by simp [lg_sl, mx_rf_cat, cat_i, cat_l]) ?_
  intro p e s m args below meth c C hR ls hl
  have hl : lv_has ls 2 [(0, va_rf (some v0)), (1, .int x1)] := hl
  obtain ⟨hx, hb, hr, hml, hown, hW, hlocks, hnm, hK, hZ⟩ := id C
  have hown : s.vm.findClass "java/util/ArrayList" = some m.cls := hown
  have hA : ∀ q, s.heap.size ≤ q → fA h s.heap.size q := fun _ h => Or.inr h
  unfold wp_AL_get at hw
  refine lv_iload_n hx hb d_AL_get_0 rfl (lv_at hl 1 rfl) ?_
  refine mx_aload_n (r := some v0) hx hb d_AL_get_1 rfl (lv_at hl 0 rfl) ?_
  obtain ⟨t1, hw⟩ := hw
  refine mx_get (ci := 9) (C := "java/util/ArrayList") (T := F_AL) (N := 3) hx hb hW hown hK.1 hR (a := v0) rfl t1 rfl i_AL 1 0 (by decide) rfl kw_54 (fun _ h9 => h9) d_AL_get_2 ?_
  refine mx_calli (va_runS (As := [.int x1, .int (gI h 901 v0)]) (rest := []) ⟨hx, hb, hml, hown, hW⟩ (mt_OBJ_checkIndex l D cs Z _ hw) (mx_cwS hW ok_OBJ_checkIndex kw_200 rfl rfl ⟨Nat.le_of_ble_eq_true rfl, Nat.le_of_ble_eq_true rfl⟩) (mx_preS hK hZ hA hR) rfl rfl hl.1 rfl (lv_room (Nat.le_of_ble_eq_true rfl)) d_AL_get_5 ⟨Nat.le_of_ble_eq_true rfl, Nat.le_of_ble_eq_true rfl⟩) hR hA (fun r2 h3 H locs hw hR => ?_)
  try dsimp only at hw
  refine lv_pop hx hb d_AL_get_8 rfl ?_
  refine mx_aload_n (r := some v0) hx hb d_AL_get_9 rfl (lv_at hl 0 rfl) ?_
  refine lv_iload_n hx hb d_AL_get_10 rfl (lv_at hl 1 rfl) ?_
  obtain ⟨t6, hw⟩ := hw
  refine mx_callr (va_runV (b := v0) (As := [.int x1]) (rest := []) ⟨hx, hb, hml, hown, hW⟩ (mt_AL_elementData l D cs Z _ hw) (mx_cwV hW ok_AL_elementData kw_206 rfl rfl ⟨Nat.le_of_ble_eq_true rfl, Nat.le_of_ble_eq_true rfl⟩) (mx_preV hK hZ hA hR (ci := 9) rfl t6) rfl rfl hl.1 rfl (lv_room (Nat.le_of_ble_eq_true rfl)) d_AL_get_11 ⟨Nat.le_of_ble_eq_true rfl, Nat.le_of_ble_eq_true rfl⟩) hR hA (fun r4 h5 H locs hw hR => ?_)
  try dsimp only at hw
  exact mx_aret hx hb hr (Or.inl ⟨_, rfl⟩) hlocks hR hw d_AL_get_14
set_option maxHeartbeats 4000000 in
set_option maxRecDepth 100000 in
theorem mt_SUP_newLength (l : Launch) (D : va_G) (cs : CS) (Z : Nat → Nat) (sz : Nat) {post : Int32 → HS → Prop} {h : HS} {x0 : Int32} {x1 : Int32} {x2 : Int32} (hw : wp_SUP_newLength Z post h x0 x1 x2) : Met l y_SUP_newLength (Cond.code y_SUP_newLength c_SUP_newLength 4 (some .int) :: WA) ({ frames := 2, cells := 0, slots := 0, locals := 100 } : Room) (mPc D cs Z h sz [.int x0, .int x1, .int x2]) (va_Qi post (mB D cs h sz) (fA h sz)) 0 0 (fA h sz) := by
  refine mx_met (fun sz => va_Qi post (mB D cs h sz) (fA h sz)) (by decide) (by simp [lg_sl, mx_rf_cat, cat_i, cat_l]) ?_
  intro p e s m args below meth c C hR ls hl
  have hl : lv_has ls 4 [(0, .int x0), (1, .int x1), (2, .int x2)] := hl
  obtain ⟨hx, hb, hr, hml, hown, hW, hlocks, hnm, hK, hZ⟩ := id C
  have hown : s.vm.findClass "jdk/internal/util/ArraysSupport" = some m.cls := hown
  have hA : ∀ q, s.heap.size ≤ q → fA h s.heap.size q := fun _ h => Or.inr h
  unfold wp_SUP_newLength at hw
  refine lv_iload_n hx hb d_SUP_newLength_0 rfl (lv_at hl 0 rfl) ?_
  refine lv_iload_n hx hb d_SUP_newLength_1 rfl (lv_at hl 1 rfl) ?_
  refine lv_iload_n hx hb d_SUP_newLength_2 rfl (lv_at hl 2 rfl) ?_
  refine va_mmax hx hb (by rw [hml]; exact hl.1.symm) hown (hW _ kw_565) (hW _ kw_334) (hW _ kw_18) (hW _ kw_335) (Nat.le_of_ble_eq_true rfl) (Nat.le_of_ble_eq_true rfl) (Nat.le_of_ble_eq_true rfl) (Nat.le_of_ble_eq_true rfl) d_SUP_newLength_3 ?_
  refine lv_iadd hx hb d_SUP_newLength_6 ?_
  refine lv_topi (fun y1 ey1 => ?_)
  have hw := hw y1 ey1
  refine lv_istore_n (i := 3) (lv' := [(3, .int y1), (0, .int x0), (1, .int x1), (2, .int x2)]) hx hb d_SUP_newLength_7 rfl hl (by decide) rfl (fun ls hl => ?_)
  refine lv_iconst (v := 0) hx hb d_SUP_newLength_8 (by decide) ?_
  refine lv_iload_n hx hb d_SUP_newLength_9 rfl (lv_at hl 0 rfl) ?_
  refine lv_icmp_ge (tgt := 21) hx hb d_SUP_newLength_10 (by decide) (fun c2 => ?_) (fun c2 => ?_)
  · have hw := hw.1 c2
    exact hw.elim
  · have hw := hw.2 c2
    refine lv_iload_n hx hb d_SUP_newLength_13 rfl (lv_at hl 0 rfl) ?_
    refine lv_ldc hx hb hown (hW _ kw_566) d_SUP_newLength_14 ?_
    refine lv_icmp_gt (tgt := 21) hx hb d_SUP_newLength_16 (by decide) (fun c3 => ?_) (fun c3 => ?_)
    · have hw := hw.1 c3
      exact hw.elim
    · have hw := hw.2 c3
      refine lv_iload_n hx hb d_SUP_newLength_19 rfl (lv_at hl 0 rfl) ?_
      exact mx_iret hx hb hr hlocks hR hw d_SUP_newLength_20
set_option maxHeartbeats 4000000 in
set_option maxRecDepth 100000 in
theorem mt_ARR_copyOf (l : Launch) (D : va_G) (cs : CS) (Z : Nat → Nat) (sz : Nat) {post : Option Nat → HS → Prop} {h : HS} {x0 : Option Nat} {x1 : Int32} {x2 : Option Nat} (hw : wp_ARR_copyOf Z post h x0 x1 x2) : Met l y_ARR_copyOf (Cond.code y_ARR_copyOf c_ARR_copyOf 4 (some (.array (.object "java/lang/Object"))) :: WA) ({ frames := 3, cells := 1, slots := 200, locals := 300 } : Room) (mPc D cs Z h sz [va_rf x0, .int x1, va_rf x2]) (va_Qq post (mB D cs h sz) (fA h sz)) 1 200 (fA h sz) := by
  refine mx_met (fun sz => va_Qq post (mB D cs h sz) (fA h sz)) (by decide) (by simp [lg_sl, mx_rf_cat, cat_i, cat_l]) ?_
  intro p e s m args below meth c C hR ls hl
  have hl : lv_has ls 4 [(0, va_rf x0), (1, .int x1), (2, va_rf x2)] := by simpa [lv_args, mx_rf_cat, cat_i, cat_l] using hl
  obtain ⟨hx, hb, hr, hml, hown, hW, hlocks, hnm, hK, hZ⟩ := id C
  have hown : s.vm.findClass "java/util/Arrays" = some m.cls := hown
  have hA : ∀ q, s.heap.size ≤ q → fA h s.heap.size q := fun _ h => Or.inr h
  unfold wp_ARR_copyOf at hw
  refine mx_aload_n (r := x2) hx hb d_ARR_copyOf_0 rfl (lv_at hl 2 rfl) ?_
  refine mx_ldcO hx hb hW hown hK kw_595 d_ARR_copyOf_1 ?_
  refine lv_acmp_ne (rx := x2) (ry := some (Z 1)) (tgt := 13) hx hb d_ARR_copyOf_3 (by decide) (fun c1 => ?_) (fun c1 => ?_)
  · have hw := hw.1 c1
    exact hw.elim
  · have hw := hw.2 c1
    refine lv_iload_n hx hb d_ARR_copyOf_6 rfl (lv_at hl 1 rfl) ?_
    obtain ⟨t3, t3b, hw⟩ := hw
    refine mx_arr_o (N' := x1.toNatClampNeg) hx hb hW hown hK hR hA kw_597 t3 rfl (by omega) (by decide) (by show _ ≤ _; simp only []; omega) d_ARR_copyOf_7 (fun q2 H tq2 hR => ?_)
    refine W.widen (k := 1) (n := 200) (by first | decide | omega) (by first | decide | omega) ?_
    have hw := hw q2 tq2
    obtain ⟨h4, eh4⟩ : ∃ z, z = nH h q2 4 x1.toNatClampNeg := ⟨_, rfl⟩
    rw [← eh4] at hR
    have hw := hw h4 eh4
    refine lv_goto (tgt := 24) hx hb d_ARR_copyOf_10 (by decide) ?_
    refine mx_astore_n (i := 3) (r := some q2) (lv' := [(3, va_rf (some q2)), (0, va_rf x0), (1, .int x1), (2, va_rf x2)]) hx hb d_ARR_copyOf_24 rfl hl (by decide) (by simp [mx_rf_cat]) (fun ls hl => ?_)
    refine mx_aload_n (r := x0) hx hb d_ARR_copyOf_25 rfl (lv_at hl 1 rfl) ?_
    refine lv_iconst (v := 0) hx hb d_ARR_copyOf_26 (by decide) ?_
    refine mx_aload_n (r := some q2) hx hb d_ARR_copyOf_27 rfl (lv_at hl 0 rfl) ?_
    refine lv_iconst (v := 0) hx hb d_ARR_copyOf_28 (by decide) ?_
    refine mx_aload_n (r := x0) hx hb d_ARR_copyOf_29 rfl (lv_at hl 1 rfl) ?_
    obtain ⟨n5, t6, hw⟩ := hw
    refine mx_alenZ hx hb hK.1 hZ hR t6 d_ARR_copyOf_30 ?_
    refine lv_iload_n hx hb d_ARR_copyOf_31 rfl (lv_at hl 2 rfl) ?_
    refine va_mmin hx hb (by rw [hml]; exact hl.1.symm) hown (hW _ kw_598) (hW _ kw_331) (hW _ kw_18) (hW _ kw_332) (Nat.le_of_ble_eq_true rfl) (by simp [mx_rf_cat, cat_i, cat_l]) (Nat.le_of_ble_eq_true rfl) (Nat.le_of_ble_eq_true rfl) d_ARR_copyOf_32 ?_
    obtain ⟨a7, ea7, t8, hw⟩ := hw
    obtain ⟨t9, t9a, t9b, t9c, t9d, t9e, t9f, hw⟩ := hw
    refine mx_copyo hx hb hW (by rw [hml]; exact hl.1.symm) hown hK hR kw_599 kw_297 kw_296 kw_19 (a0 := a7) ea7 t8 (a := q2) rfl t9 t9a t9b t9c t9d t9e t9f (Nat.le_of_ble_eq_true rfl) (Nat.le_of_ble_eq_true rfl) d_ARR_copyOf_35 (fun H locs hR => ?_)
    obtain ⟨h10, eh10⟩ : ∃ z, z = wQ h4 q2 (va_cpy (gQ h4 a7) (gQ h4 q2) (0 : Int32).toNatClampNeg (0 : Int32).toNatClampNeg (if x1 < (nI n5) then x1 else (nI n5)).toNatClampNeg) := ⟨_, rfl⟩
    rw [← eh10] at hR
    have hw := hw h10 eh10
    refine mx_aload_n (r := some q2) hx hb d_ARR_copyOf_38 rfl (lv_at hl 0 rfl) ?_
    exact mx_aret hx hb hr (Or.inr ⟨_, rfl⟩) hlocks hR hw d_ARR_copyOf_39
set_option maxHeartbeats 4000000 in
set_option maxRecDepth 100000 in
theorem mt_ARR_copyOf2 (l : Launch) (D : va_G) (cs : CS) (Z : Nat → Nat) (sz : Nat) {post : Option Nat → HS → Prop} {h : HS} {x0 : Option Nat} {x1 : Int32} (hw : wp_ARR_copyOf2 Z post h x0 x1) : Met l y_ARR_copyOf2 (Cond.code y_ARR_copyOf2 c_ARR_copyOf2 2 (some (.array (.object "java/lang/Object"))) :: WA) ({ frames := 4, cells := 1, slots := 200, locals := 323 } : Room) (mPc D cs Z h sz [va_rf x0, .int x1]) (va_Qq post (mB D cs h sz) (fA h sz)) 1 200 (fA h sz) := by
  refine mx_met (fun sz => va_Qq post (mB D cs h sz) (fA h sz)) (by decide) (by simp [lg_sl, mx_rf_cat, cat_i, cat_l]) ?_
  intro p e s m args below meth c C hR ls hl
  have hl : lv_has ls 2 [(0, va_rf x0), (1, .int x1)] := by simpa [lv_args, mx_rf_cat, cat_i, cat_l] using hl
  obtain ⟨hx, hb, hr, hml, hown, hW, hlocks, hnm, hK, hZ⟩ := id C
  have hown : s.vm.findClass "java/util/Arrays" = some m.cls := hown
  have hA : ∀ q, s.heap.size ≤ q → fA h s.heap.size q := fun _ h => Or.inr h
  unfold wp_ARR_copyOf2 at hw
  refine mx_aload_n (r := x0) hx hb d_ARR_copyOf2_0 rfl (lv_at hl 0 rfl) ?_
  refine lv_iload_n hx hb d_ARR_copyOf2_1 rfl (lv_at hl 1 rfl) ?_
  refine mx_aload_n (r := x0) hx hb d_ARR_copyOf2_2 rfl (lv_at hl 0 rfl) ?_
  obtain ⟨a1, ea1, t2, hw⟩ := hw
  refine mx_getC hx hb hW (by rw [hml]; exact hl.1.symm) hown hK hR kw_573 kw_1422 kw_574 kw_591 (a := a1) ea1 t2 (Nat.le_of_ble_eq_true rfl) (by simp [mx_rf_cat, cat_i, cat_l]) d_ARR_copyOf2_3 ?_
  refine mx_callr (va_runS (As := [va_rf x0, .int x1, va_rf (some (Z 1))]) (rest := []) ⟨hx, hb, hml, hown, hW⟩ (mt_ARR_copyOf l D cs Z _ hw) (mx_cwS hW ok_ARR_copyOf kw_592 rfl rfl ⟨Nat.le_of_ble_eq_true rfl, Nat.le_of_ble_eq_true rfl⟩) (mx_preS hK hZ hA hR) rfl rfl hl.1 rfl (lv_room (Nat.le_of_ble_eq_true rfl)) d_ARR_copyOf2_6 ⟨Nat.le_of_ble_eq_true rfl, Nat.le_of_ble_eq_true rfl⟩) hR hA (fun r3 h4 H locs hw hR => ?_)
  refine W.widen (k := 1) (n := 200) (by decide) (by decide) ?_
  try dsimp only at hw
  exact mx_aret hx hb hr (Or.inr ⟨_, rfl⟩) hlocks hR hw d_ARR_copyOf2_9
set_option maxHeartbeats 4000000 in
set_option maxRecDepth 100000 in
theorem mn_AL_grow_20 {D : va_G} {cs : CS} {Z : Nat → Nat} {h0 : HS} {p : Program} {l : Launch} {e : Env} {s : State} {m : MethodId} {args : Array Value} {below : List Frame} {meth : Method} {c : Code} {v0 : Nat} (C : mC D cs Z h0 y_AL_grow c_AL_grow 4 (some (.array (.object "java/lang/Object"))) p s m args meth c) (post : Option Nat → HS → Prop) : ∀ (x1 : Int32) (x2 : Int32) (h : HS) (H : Heap) (locs : List Loc) (ls : Array Slot), wj_AL_grow_20 Z post v0 x1 x2 h → lv_has ls 4 [(0, va_rf (some v0)), (1, .int x1), (2, .int x2)] → mR D cs (fA h0 s.heap.size) h s.heap H locs → W p l e ({ frames := 5, cells := 1, slots := 200, locals := 344 } : Room) s m args below meth c H locs 0 0 (MQ below (va_Qq post (mB D cs h0 s.heap.size) (fA h0 s.heap.size)) args s 1 200 (fA h0 s.heap.size)) (F0 m 20 ls []) := by
  obtain ⟨hx, hb, hr, hml, hown, hW, hlocks, hnm, hK, hZ⟩ := id C
  have hown : s.vm.findClass "java/util/ArrayList" = some m.cls := hown
  have hA : ∀ q, s.heap.size ≤ q → fA h0 s.heap.size q := fun _ h => Or.inr h
  intro x1 x2 h H locs ls hw hl hR
  unfold wj_AL_grow_20 at hw
  refine lv_iload_n hx hb d_AL_grow_20 rfl (lv_at hl 2 rfl) ?_
  refine lv_iload_n hx hb d_AL_grow_21 rfl (lv_at hl 1 rfl) ?_
  refine lv_iload_n hx hb d_AL_grow_22 rfl (lv_at hl 2 rfl) ?_
  refine lv_isub hx hb d_AL_grow_23 ?_
  refine lv_iload_n hx hb d_AL_grow_24 rfl (lv_at hl 2 rfl) ?_
  refine lv_iconst (v := 1) hx hb d_AL_grow_25 (by decide) ?_
  refine lv_ishr hx hb d_AL_grow_26 ?_
  refine mx_calli (va_runS (As := [.int x2, .int (x1 - x2), .int (x2 >>> ((1 : Int32) &&& 31))]) (rest := []) ⟨hx, hb, hml, hown, hW⟩ (mt_SUP_newLength l D cs Z _ hw) (mx_cwS hW ok_SUP_newLength kw_562 rfl rfl ⟨Nat.le_of_ble_eq_true rfl, Nat.le_of_ble_eq_true rfl⟩) (mx_preS hK hZ hA hR) rfl rfl hl.1 rfl (lv_room (Nat.le_of_ble_eq_true rfl)) d_AL_grow_27 ⟨Nat.le_of_ble_eq_true rfl, Nat.le_of_ble_eq_true rfl⟩) hR hA (fun r1 h2 H locs hw hR => ?_)
  try dsimp only at hw
  refine lv_istore_n (i := 3) (lv' := [(3, .int r1), (0, va_rf (some v0)), (1, .int x1), (2, .int x2)]) hx hb d_AL_grow_30 rfl hl (by decide) rfl (fun ls hl => ?_)
  refine mx_aload_n (r := some v0) hx hb d_AL_grow_31 rfl (lv_at hl 1 rfl) ?_
  refine mx_aload_n (r := some v0) hx hb d_AL_grow_32 rfl (lv_at hl 1 rfl) ?_
  obtain ⟨t3, hw⟩ := hw
  refine mx_get (ci := 9) (C := "java/util/ArrayList") (T := F_AL) (N := 3) hx hb hW hown hK.1 hR (a := v0) rfl t3 rfl i_AL 0 2 (by decide) rfl kw_53 (fun _ h9 => h9) d_AL_grow_33 ?_
  refine lv_iload_n hx hb d_AL_grow_36 rfl (lv_at hl 0 rfl) ?_
  refine mx_callr (va_runS (As := [va_rf (gR h2 900 v0), .int r1]) (rest := [va_rf (some v0)]) ⟨hx, hb, hml, hown, hW⟩ (mt_ARR_copyOf2 l D cs Z _ hw) (mx_cwS hW ok_ARR_copyOf2 kw_570 rfl rfl ⟨Nat.le_of_ble_eq_true rfl, Nat.le_of_ble_eq_true rfl⟩) (mx_preS hK hZ hA hR) rfl rfl hl.1 rfl (lv_room (Nat.le_of_ble_eq_true rfl)) d_AL_grow_37 ⟨Nat.le_of_ble_eq_true rfl, Nat.le_of_ble_eq_true rfl⟩) hR hA (fun r4 h5 H locs hw hR => ?_)
  refine W.widen (k := 1) (n := 200) (by decide) (by decide) ?_
  try dsimp only at hw
  refine lv_dup_x1 hx hb d_AL_grow_40 (mx_rf_cat _) (mx_rf_cat _) ?_
  obtain ⟨t6, hw⟩ := hw
  refine mx_put (ci := 9) (C := "java/util/ArrayList") (T := F_AL) (N := 3) (v := va_rf r4) (h' := sR h5 900 v0 r4) hx hb hW hown hK.1 hR (a := v0) rfl t6 rfl i_AL t_AL t_AL_ok n_AL 0 2 (by decide) rfl kw_53 (fun _ h9 => h9) rfl (mx_rf_n _ rfl _).1 (mx_rf_n _ rfl _).2 d_AL_grow_41 rfl (toE_sR (ci := 9) (k := 0) t6 rfl) (fun H locs hR => ?_)
  obtain ⟨h7, eh7⟩ : ∃ z, z = sR h5 900 v0 r4 := ⟨_, rfl⟩
  rw [← eh7] at hR
  have hw := hw h7 eh7
  exact mx_aret hx hb hr (Or.inr ⟨_, rfl⟩) hlocks hR hw d_AL_grow_44
set_option maxHeartbeats 4000000 in
set_option maxRecDepth 100000 in
theorem mt_AL_grow (l : Launch) (D : va_G) (cs : CS) (Z : Nat → Nat) (sz : Nat) {post : Option Nat → HS → Prop} {h : HS} {v0 : Nat} {x1 : Int32} (hw : wp_AL_grow Z post h v0 x1) : Met l y_AL_grow (Cond.code y_AL_grow c_AL_grow 4 (some (.array (.object "java/lang/Object"))) :: WA) ({ frames := 5, cells := 1, slots := 200, locals := 344 } : Room) (mPc D cs Z h sz [va_rf (some v0), .int x1]) (va_Qq post (mB D cs h sz) (fA h sz)) 1 200 (fA h sz) := by
  refine mx_met (fun sz => va_Qq post (mB D cs h sz) (fA h sz)) (by decide) (by simp [lg_sl, mx_rf_cat, cat_i, cat_l]) ?_
  intro p e s m args below meth c C hR ls hl
  have hl : lv_has ls 4 [(0, va_rf (some v0)), (1, .int x1)] := hl
  obtain ⟨hx, hb, hr, hml, hown, hW, hlocks, hnm, hK, hZ⟩ := id C
  have hown : s.vm.findClass "java/util/ArrayList" = some m.cls := hown
  have hA : ∀ q, s.heap.size ≤ q → fA h s.heap.size q := fun _ h => Or.inr h
  unfold wp_AL_grow at hw
  refine mx_aload_n (r := some v0) hx hb d_AL_grow_0 rfl (lv_at hl 0 rfl) ?_
  obtain ⟨t1, hw⟩ := hw
  refine mx_get (ci := 9) (C := "java/util/ArrayList") (T := F_AL) (N := 3) hx hb hW hown hK.1 hR (a := v0) rfl t1 rfl i_AL 0 2 (by decide) rfl kw_53 (fun _ h9 => h9) d_AL_grow_1 ?_
  obtain ⟨n2, t3, hw⟩ := hw
  refine mx_alenZ hx hb hK.1 hZ hR t3 d_AL_grow_4 ?_
  refine lv_topi (fun y4 ey4 => ?_)
  have hw := hw y4 ey4
  refine lv_istore_n (i := 2) (lv' := [(2, .int y4), (0, va_rf (some v0)), (1, .int x1)]) hx hb d_AL_grow_5 rfl hl (by decide) rfl (fun ls hl => ?_)
  refine lv_iload_n hx hb d_AL_grow_6 rfl (lv_at hl 0 rfl) ?_
  refine lv_if_gt (tgt := 20) hx hb d_AL_grow_7 (by decide) (fun c5 => ?_) (fun c5 => ?_)
  · have hw := hw.1 c5
    exact mn_AL_grow_20 C post x1 y4 _ _ _ _ hw (lv_sub hl [1, 2, 0] rfl) hR
  · have hw := hw.2 c5
    refine mx_aload_n (r := some v0) hx hb d_AL_grow_10 rfl (lv_at hl 1 rfl) ?_
    obtain ⟨t6, hw⟩ := hw
    refine mx_get (ci := 9) (C := "java/util/ArrayList") (T := F_AL) (N := 3) hx hb hW hown hK.1 hR (a := v0) rfl t6 rfl i_AL 0 2 (by decide) rfl kw_53 (fun _ h9 => h9) d_AL_grow_11 ?_
    refine mx_empty hx hb hW hown hZ hR kw_51 d_AL_grow_14 ?_
    refine lv_acmp_eq (rx := (gR h 900 v0)) (ry := some (Z 0)) (tgt := 45) hx hb d_AL_grow_17 (by decide) (fun c7 => ?_) (fun c7 => ?_)
    · have hw := hw.1 c7
      refine mx_aload_n (r := some v0) hx hb d_AL_grow_45 rfl (lv_at hl 1 rfl) ?_
      refine lv_bipush (v := 10) hx hb d_AL_grow_46 (by decide) ?_
      refine lv_iload_n hx hb d_AL_grow_48 rfl (lv_at hl 2 rfl) ?_
      refine va_mmax hx hb (by rw [hml]; exact hl.1.symm) hown (hW _ kw_600) (hW _ kw_334) (hW _ kw_18) (hW _ kw_335) (Nat.le_of_ble_eq_true rfl) (Nat.le_of_ble_eq_true rfl) (Nat.le_of_ble_eq_true rfl) (Nat.le_of_ble_eq_true rfl) d_AL_grow_49 ?_
      obtain ⟨t9, t9b, hw⟩ := hw
      refine mx_arr_o (N' := (if (10 : Int32) < x1 then x1 else (10 : Int32)).toNatClampNeg) hx hb hW hown hK hR hA kw_601 t9 rfl (by omega) (by decide) (by show _ ≤ _; simp only []; omega) d_AL_grow_52 (fun q8 H tq8 hR => ?_)
      refine W.widen (k := 1) (n := 200) (by first | decide | omega) (by first | decide | omega) ?_
      have hw := hw q8 tq8
      obtain ⟨h10, eh10⟩ : ∃ z, z = nH h q8 4 (if (10 : Int32) < x1 then x1 else (10 : Int32)).toNatClampNeg := ⟨_, rfl⟩
      rw [← eh10] at hR
      have hw := hw h10 eh10
      refine lv_dup_x1 hx hb d_AL_grow_55 (mx_rf_cat _) (mx_rf_cat _) ?_
      obtain ⟨t11, hw⟩ := hw
      refine mx_put (ci := 9) (C := "java/util/ArrayList") (T := F_AL) (N := 3) (v := va_rf (some q8)) (h' := sR h10 900 v0 (some q8)) hx hb hW hown hK.1 hR (a := v0) rfl t11 rfl i_AL t_AL t_AL_ok n_AL 0 2 (by decide) rfl kw_53 (fun _ h9 => h9) rfl (mx_rf_n _ rfl _).1 (mx_rf_n _ rfl _).2 d_AL_grow_56 rfl (toE_sR (ci := 9) (k := 0) t11 rfl) (fun H locs hR => ?_)
      obtain ⟨h12, eh12⟩ : ∃ z, z = sR h10 900 v0 (some q8) := ⟨_, rfl⟩
      rw [← eh12] at hR
      have hw := hw h12 eh12
      exact mx_aret hx hb hr (Or.inr ⟨_, rfl⟩) hlocks hR hw d_AL_grow_59
    · have hw := hw.2 c7
      exact mn_AL_grow_20 C post x1 y4 _ _ _ _ hw (lv_sub hl [1, 2, 0] rfl) hR
set_option maxHeartbeats 4000000 in
set_option maxRecDepth 100000 in
theorem mt_AL_grow2 (l : Launch) (D : va_G) (cs : CS) (Z : Nat → Nat) (sz : Nat) {post : Option Nat → HS → Prop} {h : HS} {v0 : Nat}  (hw : wp_AL_grow2 Z post h v0 ) : Met l y_AL_grow2 (Cond.code y_AL_grow2 c_AL_grow2 1 (some (.array (.object "java/lang/Object"))) :: WA) ({ frames := 6, cells := 1, slots := 200, locals := 367 } : Room) (mPc D cs Z h sz [va_rf (some v0)]) (va_Qq post (mB D cs h sz) (fA h sz)) 1 200 (fA h sz) := by
  refine mx_met (fun sz => va_Qq post (mB D cs h sz) (fA h sz)) (by decide) (by simp [lg_sl, mx_rf_cat, cat_i, cat_l]) ?_
  intro p e s m args below meth c C hR ls hl
  have hl : lv_has ls 1 [(0, va_rf (some v0))] := hl
  obtain ⟨hx, hb, hr, hml, hown, hW, hlocks, hnm, hK, hZ⟩ := id C
  have hown : s.vm.findClass "java/util/ArrayList" = some m.cls := hown
  have hA : ∀ q, s.heap.size ≤ q → fA h s.heap.size q := fun _ h => Or.inr h
  unfold wp_AL_grow2 at hw
  refine mx_aload_n (r := some v0) hx hb d_AL_grow2_0 rfl (lv_at hl 0 rfl) ?_
  refine mx_aload_n (r := some v0) hx hb d_AL_grow2_1 rfl (lv_at hl 0 rfl) ?_
  obtain ⟨t1, hw⟩ := hw
  refine mx_get (ci := 9) (C := "java/util/ArrayList") (T := F_AL) (N := 3) hx hb hW hown hK.1 hR (a := v0) rfl t1 rfl i_AL 1 0 (by decide) rfl kw_54 (fun _ h9 => h9) d_AL_grow2_2 ?_
  refine lv_iconst (v := 1) hx hb d_AL_grow2_5 (by decide) ?_
  refine lv_iadd hx hb d_AL_grow2_6 ?_
  obtain ⟨t4, hw⟩ := hw
  refine mx_callr (va_runV (b := v0) (As := [.int ((gI h 901 v0) + (1 : Int32))]) (rest := []) ⟨hx, hb, hml, hown, hW⟩ (mt_AL_grow l D cs Z _ hw) (mx_cwV hW ok_AL_grow kw_558 rfl rfl ⟨Nat.le_of_ble_eq_true rfl, Nat.le_of_ble_eq_true rfl⟩) (mx_preV hK hZ hA hR (ci := 9) rfl t4) rfl rfl hl.1 rfl (lv_room (Nat.le_of_ble_eq_true rfl)) d_AL_grow2_7 ⟨Nat.le_of_ble_eq_true rfl, Nat.le_of_ble_eq_true rfl⟩) hR hA (fun r2 h3 H locs hw hR => ?_)
  refine W.widen (k := 1) (n := 200) (by decide) (by decide) ?_
  try dsimp only at hw
  exact mx_aret hx hb hr (Or.inr ⟨_, rfl⟩) hlocks hR hw d_AL_grow2_10
set_option maxHeartbeats 4000000 in
set_option maxRecDepth 100000 in
theorem mn_AL_add_11 {D : va_G} {cs : CS} {Z : Nat → Nat} {h0 : HS} {p : Program} {l : Launch} {e : Env} {s : State} {m : MethodId} {args : Array Value} {below : List Frame} {meth : Method} {c : Code} {v0 : Nat} (C : mC D cs Z h0 y_AL_add c_AL_add 4 none p s m args meth c) (post : HS → Prop) : ∀ (x1 : Option Nat) (x2 : Option Nat) (x3 : Int32) (h : HS) (H : Heap) (locs : List Loc) (ls : Array Slot), wj_AL_add_11 Z post v0 x1 x2 x3 h → lv_has ls 4 [(0, va_rf (some v0)), (1, va_rf x1), (2, va_rf x2), (3, .int x3)] → mR D cs (fA h0 s.heap.size) h s.heap H locs → W p l e ({ frames := 7, cells := 1, slots := 200, locals := 387 } : Room) s m args below meth c H locs 1 200 (MQ below (va_Qv post (mB D cs h0 s.heap.size) (fA h0 s.heap.size)) args s 1 200 (fA h0 s.heap.size)) (F0 m 11 ls []) := by
  obtain ⟨hx, hb, hr, hml, hown, hW, hlocks, hnm, hK, hZ⟩ := id C
  have hown : s.vm.findClass "java/util/ArrayList" = some m.cls := hown
  have hA : ∀ q, s.heap.size ≤ q → fA h0 s.heap.size q := fun _ h => Or.inr h
  intro x1 x2 x3 h H locs ls hw hl hR
  unfold wj_AL_add_11 at hw
  refine mx_aload_n (r := x2) hx hb d_AL_add_11 rfl (lv_at hl 2 rfl) ?_
  refine lv_iload_n hx hb d_AL_add_12 rfl (lv_at hl 3 rfl) ?_
  refine mx_aload_n (r := x1) hx hb d_AL_add_13 rfl (lv_at hl 1 rfl) ?_
  obtain ⟨a1, ea1, t2, t2i, hw⟩ := hw
  obtain ⟨a3, ea3, t4, hw⟩ := hw
  refine mx_oast hx hb hK hR (a := a1) ea1 t2 (b := a3) ea3 t4 t2i d_AL_add_14 (fun H locs hR => ?_)
  obtain ⟨h5, eh5⟩ : ∃ z, z = sQ h a1 x3.toNatClampNeg x1 := ⟨_, rfl⟩
  rw [← eh5] at hR
  have hw := hw h5 eh5
  refine mx_aload_n (r := some v0) hx hb d_AL_add_15 rfl (lv_at hl 0 rfl) ?_
  refine lv_iload_n hx hb d_AL_add_16 rfl (lv_at hl 3 rfl) ?_
  refine lv_iconst (v := 1) hx hb d_AL_add_17 (by decide) ?_
  refine lv_iadd hx hb d_AL_add_18 ?_
  obtain ⟨t6, hw⟩ := hw
  refine mx_put (ci := 9) (C := "java/util/ArrayList") (T := F_AL) (N := 3) (v := .int (x3 + (1 : Int32))) (h' := sI h5 901 v0 (x3 + (1 : Int32))) hx hb hW hown hK.1 hR (a := v0) rfl t6 rfl i_AL t_AL t_AL_ok n_AL 1 0 (by decide) rfl kw_54 (fun _ h9 => h9) rfl rfl rfl d_AL_add_19 rfl (toE_sI (ci := 9) (k := 1) t6 rfl) (fun H locs hR => ?_)
  obtain ⟨h7, eh7⟩ : ∃ z, z = sI h5 901 v0 (x3 + (1 : Int32)) := ⟨_, rfl⟩
  rw [← eh7] at hR
  have hw := hw h7 eh7
  exact mx_vret hx hb hr hlocks hR hw d_AL_add_22
set_option maxHeartbeats 4000000 in
set_option maxRecDepth 100000 in
theorem mt_AL_add (l : Launch) (D : va_G) (cs : CS) (Z : Nat → Nat) (sz : Nat) {post : HS → Prop} {h : HS} {v0 : Nat} {x1 : Option Nat} {x2 : Option Nat} {x3 : Int32} (hw : wp_AL_add Z post h v0 x1 x2 x3) : Met l y_AL_add (Cond.code y_AL_add c_AL_add 4 none :: WA) ({ frames := 7, cells := 1, slots := 200, locals := 387 } : Room) (mPc D cs Z h sz [va_rf (some v0), va_rf x1, va_rf x2, .int x3]) (va_Qv post (mB D cs h sz) (fA h sz)) 1 200 (fA h sz) := by
  refine mx_met (fun sz => va_Qv post (mB D cs h sz) (fA h sz)) (by decide) (by simp [lg_sl, mx_rf_cat, cat_i, cat_l]) ?_
  intro p e s m args below meth c C hR ls hl
  have hl : lv_has ls 4 [(0, va_rf (some v0)), (1, va_rf x1), (2, va_rf x2), (3, .int x3)] := by simpa [lv_args, mx_rf_cat, cat_i, cat_l] using hl
  obtain ⟨hx, hb, hr, hml, hown, hW, hlocks, hnm, hK, hZ⟩ := id C
  have hown : s.vm.findClass "java/util/ArrayList" = some m.cls := hown
  have hA : ∀ q, s.heap.size ≤ q → fA h s.heap.size q := fun _ h => Or.inr h
  unfold wp_AL_add at hw
  refine lv_iload_n hx hb d_AL_add_0 rfl (lv_at hl 3 rfl) ?_
  refine mx_aload_n (r := x2) hx hb d_AL_add_1 rfl (lv_at hl 2 rfl) ?_
  obtain ⟨n1, t2, hw⟩ := hw
  refine mx_alenZ hx hb hK.1 hZ hR t2 d_AL_add_2 ?_
  refine lv_icmp_ne (tgt := 11) hx hb d_AL_add_3 (by decide) (fun c3 => ?_) (fun c3 => ?_)
  · have hw := hw.1 c3
    refine W.widen (k := 1) (n := 200) (by decide) (by decide) ?_
    exact mn_AL_add_11 C post x1 x2 x3 _ _ _ _ hw (lv_sub hl [0, 1, 2, 3] rfl) hR
  · have hw := hw.2 c3
    refine mx_aload_n (r := some v0) hx hb d_AL_add_6 rfl (lv_at hl 0 rfl) ?_
    obtain ⟨t6, hw⟩ := hw
    refine mx_callr (va_runV (b := v0) (As := []) (rest := []) ⟨hx, hb, hml, hown, hW⟩ (mt_AL_grow2 l D cs Z _ hw) (mx_cwV hW ok_AL_grow2 kw_554 rfl rfl ⟨Nat.le_of_ble_eq_true rfl, Nat.le_of_ble_eq_true rfl⟩) (mx_preV hK hZ hA hR (ci := 9) rfl t6) rfl rfl hl.1 rfl (lv_room (Nat.le_of_ble_eq_true rfl)) d_AL_add_7 ⟨Nat.le_of_ble_eq_true rfl, Nat.le_of_ble_eq_true rfl⟩) hR hA (fun r4 h5 H locs hw hR => ?_)
    refine W.widen (k := 1) (n := 200) (by decide) (by decide) ?_
    try dsimp only at hw
    refine mx_astore_n (i := 2) (r := r4) (lv' := [(2, va_rf r4), (0, va_rf (some v0)), (1, va_rf x1), (3, .int x3)]) hx hb d_AL_add_10 rfl hl (by decide) (by simp [mx_rf_cat]) (fun ls hl => ?_)
    exact mn_AL_add_11 C post x1 r4 x3 _ _ _ _ hw (lv_sub hl [1, 2, 0, 3] rfl) hR
set_option maxHeartbeats 4000000 in
set_option maxRecDepth 100000 in
theorem mt_AL_add2 (l : Launch) (D : va_G) (cs : CS) (Z : Nat → Nat) (sz : Nat) {post : Int32 → HS → Prop} {h : HS} {v0 : Nat} {x1 : Option Nat} (hw : wp_AL_add2 Z post h v0 x1) : Met l y_AL_add2 (Cond.code y_AL_add2 c_AL_add2 2 (some .boolean) :: WA) ({ frames := 8, cells := 1, slots := 200, locals := 410 } : Room) (mPc D cs Z h sz [va_rf (some v0), va_rf x1]) (va_Qi post (mB D cs h sz) (fA h sz)) 1 200 (fA h sz) := by
  refine mx_met (fun sz => va_Qi post (mB D cs h sz) (fA h sz)) (by decide) (by simp [lg_sl, mx_rf_cat, cat_i, cat_l]) ?_
  intro p e s m args below meth c C hR ls hl
  have hl : lv_has ls 2 [(0, va_rf (some v0)), (1, va_rf x1)] := by simpa [lv_args, mx_rf_cat, cat_i, cat_l] using hl
  obtain ⟨hx, hb, hr, hml, hown, hW, hlocks, hnm, hK, hZ⟩ := id C
  have hown : s.vm.findClass "java/util/ArrayList" = some m.cls := hown
  have hA : ∀ q, s.heap.size ≤ q → fA h s.heap.size q := fun _ h => Or.inr h
  unfold wp_AL_add2 at hw
  refine mx_aload_n (r := some v0) hx hb d_AL_add2_0 rfl (lv_at hl 0 rfl) ?_
  refine lv_dup hx hb d_AL_add2_1 (mx_rf_cat _) ?_
  obtain ⟨t1, hw⟩ := hw
  refine mx_get (ci := 9) (C := "java/util/ArrayList") (T := F_AL) (N := 3) hx hb hW hown hK.1 hR (a := v0) rfl t1 rfl i_AL 2 0 (by decide) rfl kw_56 (fun x9 h9 => u_same (hW _ kw_57) x9 h9) d_AL_add2_2 ?_
  refine lv_iconst (v := 1) hx hb d_AL_add2_5 (by decide) ?_
  refine lv_iadd hx hb d_AL_add2_6 ?_
  obtain ⟨t2, hw⟩ := hw
  refine mx_put (ci := 9) (C := "java/util/ArrayList") (T := F_AL) (N := 3) (v := .int ((gI h 902 v0) + (1 : Int32))) (h' := sI h 902 v0 ((gI h 902 v0) + (1 : Int32))) hx hb hW hown hK.1 hR (a := v0) rfl t2 rfl i_AL t_AL t_AL_ok n_AL 2 0 (by decide) rfl kw_56 (fun x9 h9 => u_same (hW _ kw_57) x9 h9) rfl rfl rfl d_AL_add2_7 rfl (toE_sI (ci := 9) (k := 2) t2 rfl) (fun H locs hR => ?_)
  obtain ⟨h3, eh3⟩ : ∃ z, z = sI h 902 v0 ((gI h 902 v0) + (1 : Int32)) := ⟨_, rfl⟩
  rw [← eh3] at hR
  have hw := hw h3 eh3
  refine mx_aload_n (r := some v0) hx hb d_AL_add2_10 rfl (lv_at hl 0 rfl) ?_
  refine mx_aload_n (r := x1) hx hb d_AL_add2_11 rfl (lv_at hl 1 rfl) ?_
  refine mx_aload_n (r := some v0) hx hb d_AL_add2_12 rfl (lv_at hl 0 rfl) ?_
  obtain ⟨t4, hw⟩ := hw
  refine mx_get (ci := 9) (C := "java/util/ArrayList") (T := F_AL) (N := 3) hx hb hW hown hK.1 hR (a := v0) rfl t4 rfl i_AL 0 2 (by decide) rfl kw_53 (fun _ h9 => h9) d_AL_add2_13 ?_
  refine mx_aload_n (r := some v0) hx hb d_AL_add2_16 rfl (lv_at hl 0 rfl) ?_
  obtain ⟨t5, hw⟩ := hw
  refine mx_get (ci := 9) (C := "java/util/ArrayList") (T := F_AL) (N := 3) hx hb hW hown hK.1 hR (a := v0) rfl t5 rfl i_AL 1 0 (by decide) rfl kw_54 (fun _ h9 => h9) d_AL_add2_17 ?_
  obtain ⟨t8, hw⟩ := hw
  refine mx_callv (va_runV (b := v0) (As := [va_rf x1, va_rf (gR h3 900 v0), .int (gI h3 901 v0)]) (rest := []) ⟨hx, hb, hml, hown, hW⟩ (mt_AL_add l D cs Z _ hw) (mx_cwV hW ok_AL_add kw_550 rfl rfl ⟨Nat.le_of_ble_eq_true rfl, Nat.le_of_ble_eq_true rfl⟩) (mx_preV hK hZ hA hR (ci := 9) rfl t8) rfl rfl hl.1 rfl (lv_room (Nat.le_of_ble_eq_true rfl)) d_AL_add2_20 ⟨Nat.le_of_ble_eq_true rfl, Nat.le_of_ble_eq_true rfl⟩) hR hA (fun h7 H locs hw hR => ?_)
  refine W.widen (k := 1) (n := 200) (by decide) (by decide) ?_
  try dsimp only at hw
  refine lv_iconst (v := 1) hx hb d_AL_add2_23 (by decide) ?_
  exact mx_zret hx hb hr hlocks hR (Or.inr rfl) hw d_AL_add2_24
set_option maxHeartbeats 4000000 in
set_option maxRecDepth 100000 in
theorem mt_AL_rangeCheckForAdd (l : Launch) (D : va_G) (cs : CS) (Z : Nat → Nat) (sz : Nat) {post : HS → Prop} {h : HS} {v0 : Nat} {x1 : Int32} (hw : wp_AL_rangeCheckForAdd Z post h v0 x1) : Met l y_AL_rangeCheckForAdd (Cond.code y_AL_rangeCheckForAdd c_AL_rangeCheckForAdd 2 none :: WA) ({ frames := 2, cells := 1, slots := 6, locals := 100 } : Room) (mPc D cs Z h sz [va_rf (some v0), .int x1]) (va_Qv post (mB D cs h sz) (fA h sz)) 1 6 (fA h sz) := by
  refine mx_met (fun sz => va_Qv post (mB D cs h sz) (fA h sz)) (by decide) (by simp [lg_sl, mx_rf_cat, cat_i, cat_l]) ?_
  intro p e s m args below meth c C hR ls hl
  have hl : lv_has ls 2 [(0, va_rf (some v0)), (1, .int x1)] := hl
  obtain ⟨hx, hb, hr, hml, hown, hW, hlocks, hnm, hK, hZ⟩ := id C
  have hown : s.vm.findClass "java/util/ArrayList" = some m.cls := hown
  have hA : ∀ q, s.heap.size ≤ q → fA h s.heap.size q := fun _ h => Or.inr h
  unfold wp_AL_rangeCheckForAdd at hw
  refine lv_iload_n hx hb d_AL_rangeCheckForAdd_0 rfl (lv_at hl 1 rfl) ?_
  refine mx_aload_n (r := some v0) hx hb d_AL_rangeCheckForAdd_1 rfl (lv_at hl 0 rfl) ?_
  obtain ⟨t1, hw⟩ := hw
  refine mx_get (ci := 9) (C := "java/util/ArrayList") (T := F_AL) (N := 3) hx hb hW hown hK.1 hR (a := v0) rfl t1 rfl i_AL 1 0 (by decide) rfl kw_54 (fun _ h9 => h9) d_AL_rangeCheckForAdd_2 ?_
  refine lv_icmp_gt (tgt := 12) hx hb d_AL_rangeCheckForAdd_5 (by decide) (fun c2 => ?_) (fun c2 => ?_)
  · have hw := hw.1 c2
    exact hw.elim
  · have hw := hw.2 c2
    refine lv_iload_n hx hb d_AL_rangeCheckForAdd_8 rfl (lv_at hl 1 rfl) ?_
    refine lv_if_ge (tgt := 25) hx hb d_AL_rangeCheckForAdd_9 (by decide) (fun c3 => ?_) (fun c3 => ?_)
    · have hw := hw.1 c3
      refine W.widen (k := 1) (n := 6) (by decide) (by decide) ?_
      exact mx_vret hx hb hr hlocks hR hw d_AL_rangeCheckForAdd_25
    · have hw := hw.2 c3
      exact hw.elim
set_option maxHeartbeats 4000000 in
set_option maxRecDepth 100000 in
theorem mn_AL_add3_38 {D : va_G} {cs : CS} {Z : Nat → Nat} {h0 : HS} {p : Program} {l : Launch} {e : Env} {s : State} {m : MethodId} {args : Array Value} {below : List Frame} {meth : Method} {c : Code} {v0 : Nat} (C : mC D cs Z h0 y_AL_add3 c_AL_add3 5 none p s m args meth c) (post : HS → Prop) : ∀ (x1 : Int32) (x2 : Option Nat) (x3 : Int32) (x4 : Option Nat) (h : HS) (H : Heap) (locs : List Loc) (ls : Array Slot), wj_AL_add3_38 Z post v0 x1 x2 x3 x4 h → lv_has ls 5 [(0, va_rf (some v0)), (1, .int x1), (2, va_rf x2), (3, .int x3), (4, va_rf x4)] → mR D cs (fA h0 s.heap.size) h s.heap H locs → W p l e ({ frames := 7, cells := 2, slots := 206, locals := 387 } : Room) s m args below meth c H locs 2 206 (MQ below (va_Qv post (mB D cs h0 s.heap.size) (fA h0 s.heap.size)) args s 2 206 (fA h0 s.heap.size)) (F0 m 38 ls []) := by
  obtain ⟨hx, hb, hr, hml, hown, hW, hlocks, hnm, hK, hZ⟩ := id C
  have hown : s.vm.findClass "java/util/ArrayList" = some m.cls := hown
  have hA : ∀ q, s.heap.size ≤ q → fA h0 s.heap.size q := fun _ h => Or.inr h
  intro x1 x2 x3 x4 h H locs ls hw hl hR
  unfold wj_AL_add3_38 at hw
  refine mx_aload (r := x4) hx hb d_AL_add3_38 (lv_at hl 4 rfl) ?_
  refine lv_iload_n hx hb d_AL_add3_40 rfl (lv_at hl 1 rfl) ?_
  refine mx_aload (r := x4) hx hb d_AL_add3_41 (lv_at hl 4 rfl) ?_
  refine lv_iload_n hx hb d_AL_add3_43 rfl (lv_at hl 1 rfl) ?_
  refine lv_iconst (v := 1) hx hb d_AL_add3_44 (by decide) ?_
  refine lv_iadd hx hb d_AL_add3_45 ?_
  refine lv_iload_n hx hb d_AL_add3_46 rfl (lv_at hl 3 rfl) ?_
  refine lv_iload_n hx hb d_AL_add3_47 rfl (lv_at hl 1 rfl) ?_
  refine lv_isub hx hb d_AL_add3_48 ?_
  obtain ⟨a1, ea1, t2, hw⟩ := hw
  obtain ⟨a3, ea3, t4, t4a, t4b, t4c, t4d, t4e, t4f, hw⟩ := hw
  refine mx_copyo hx hb hW (by rw [hml]; exact hl.1.symm) hown hK hR kw_985 kw_297 kw_296 kw_19 (a0 := a1) ea1 t2 (a := a3) ea3 t4 t4a t4b t4c t4d t4e t4f (Nat.le_of_ble_eq_true rfl) (Nat.le_of_ble_eq_true rfl) d_AL_add3_49 (fun H locs hR => ?_)
  obtain ⟨h5, eh5⟩ : ∃ z, z = wQ h a3 (va_cpy (gQ h a1) (gQ h a3) x1.toNatClampNeg (x1 + (1 : Int32)).toNatClampNeg (x3 - x1).toNatClampNeg) := ⟨_, rfl⟩
  rw [← eh5] at hR
  have hw := hw h5 eh5
  refine mx_aload (r := x4) hx hb d_AL_add3_52 (lv_at hl 4 rfl) ?_
  refine lv_iload_n hx hb d_AL_add3_54 rfl (lv_at hl 1 rfl) ?_
  refine mx_aload_n (r := x2) hx hb d_AL_add3_55 rfl (lv_at hl 2 rfl) ?_
  obtain ⟨a6, ea6, t7, t7i, hw⟩ := hw
  obtain ⟨a8, ea8, t9, hw⟩ := hw
  refine mx_oast hx hb hK hR (a := a6) ea6 t7 (b := a8) ea8 t9 t7i d_AL_add3_56 (fun H locs hR => ?_)
  obtain ⟨h10, eh10⟩ : ∃ z, z = sQ h5 a6 x1.toNatClampNeg x2 := ⟨_, rfl⟩
  rw [← eh10] at hR
  have hw := hw h10 eh10
  refine mx_aload_n (r := some v0) hx hb d_AL_add3_57 rfl (lv_at hl 0 rfl) ?_
  refine lv_iload_n hx hb d_AL_add3_58 rfl (lv_at hl 3 rfl) ?_
  refine lv_iconst (v := 1) hx hb d_AL_add3_59 (by decide) ?_
  refine lv_iadd hx hb d_AL_add3_60 ?_
  obtain ⟨t11, hw⟩ := hw
  refine mx_put (ci := 9) (C := "java/util/ArrayList") (T := F_AL) (N := 3) (v := .int (x3 + (1 : Int32))) (h' := sI h10 901 v0 (x3 + (1 : Int32))) hx hb hW hown hK.1 hR (a := v0) rfl t11 rfl i_AL t_AL t_AL_ok n_AL 1 0 (by decide) rfl kw_54 (fun _ h9 => h9) rfl rfl rfl d_AL_add3_61 rfl (toE_sI (ci := 9) (k := 1) t11 rfl) (fun H locs hR => ?_)
  obtain ⟨h12, eh12⟩ : ∃ z, z = sI h10 901 v0 (x3 + (1 : Int32)) := ⟨_, rfl⟩
  rw [← eh12] at hR
  have hw := hw h12 eh12
  exact mx_vret hx hb hr hlocks hR hw d_AL_add3_64
set_option maxHeartbeats 4000000 in
set_option maxRecDepth 100000 in
theorem mt_AL_add3 (l : Launch) (D : va_G) (cs : CS) (Z : Nat → Nat) (sz : Nat) {post : HS → Prop} {h : HS} {v0 : Nat} {x1 : Int32} {x2 : Option Nat} (hw : wp_AL_add3 Z post h v0 x1 x2) : Met l y_AL_add3 (Cond.code y_AL_add3 c_AL_add3 5 none :: WA) ({ frames := 7, cells := 2, slots := 206, locals := 387 } : Room) (mPc D cs Z h sz [va_rf (some v0), .int x1, va_rf x2]) (va_Qv post (mB D cs h sz) (fA h sz)) 2 206 (fA h sz) := by
  refine mx_met (fun sz => va_Qv post (mB D cs h sz) (fA h sz)) (by decide) (by simp [lg_sl, mx_rf_cat, cat_i, cat_l]) ?_
  intro p e s m args below meth c C hR ls hl
  have hl : lv_has ls 5 [(0, va_rf (some v0)), (1, .int x1), (2, va_rf x2)] := by simpa [lv_args, mx_rf_cat, cat_i, cat_l] using hl
  obtain ⟨hx, hb, hr, hml, hown, hW, hlocks, hnm, hK, hZ⟩ := id C
  have hown : s.vm.findClass "java/util/ArrayList" = some m.cls := hown
  have hA : ∀ q, s.heap.size ≤ q → fA h s.heap.size q := fun _ h => Or.inr h
  unfold wp_AL_add3 at hw
  refine mx_aload_n (r := some v0) hx hb d_AL_add3_0 rfl (lv_at hl 0 rfl) ?_
  refine lv_iload_n hx hb d_AL_add3_1 rfl (lv_at hl 1 rfl) ?_
  obtain ⟨t3, hw⟩ := hw
  refine mx_callv (va_runV (b := v0) (As := [.int x1]) (rest := []) ⟨hx, hb, hml, hown, hW⟩ (mt_AL_rangeCheckForAdd l D cs Z _ hw) (mx_cwV hW ok_AL_rangeCheckForAdd kw_744 rfl rfl ⟨Nat.le_of_ble_eq_true rfl, Nat.le_of_ble_eq_true rfl⟩) (mx_preV hK hZ hA hR (ci := 9) rfl t3) rfl rfl hl.1 rfl (lv_room (Nat.le_of_ble_eq_true rfl)) d_AL_add3_2 ⟨Nat.le_of_ble_eq_true rfl, Nat.le_of_ble_eq_true rfl⟩) hR hA (fun h2 H locs hw hR => ?_)
  refine W.widen (k := 1) (n := 6) (by decide) (by decide) ?_
  try dsimp only at hw
  refine mx_aload_n (r := some v0) hx hb d_AL_add3_5 rfl (lv_at hl 0 rfl) ?_
  refine lv_dup hx hb d_AL_add3_6 (mx_rf_cat _) ?_
  obtain ⟨t4, hw⟩ := hw
  refine mx_get (ci := 9) (C := "java/util/ArrayList") (T := F_AL) (N := 3) hx hb hW hown hK.1 hR (a := v0) rfl t4 rfl i_AL 2 0 (by decide) rfl kw_56 (fun x9 h9 => u_same (hW _ kw_57) x9 h9) d_AL_add3_7 ?_
  refine lv_iconst (v := 1) hx hb d_AL_add3_10 (by decide) ?_
  refine lv_iadd hx hb d_AL_add3_11 ?_
  obtain ⟨t5, hw⟩ := hw
  refine mx_put (ci := 9) (C := "java/util/ArrayList") (T := F_AL) (N := 3) (v := .int ((gI h2 902 v0) + (1 : Int32))) (h' := sI h2 902 v0 ((gI h2 902 v0) + (1 : Int32))) hx hb hW hown hK.1 hR (a := v0) rfl t5 rfl i_AL t_AL t_AL_ok n_AL 2 0 (by decide) rfl kw_56 (fun x9 h9 => u_same (hW _ kw_57) x9 h9) rfl rfl rfl d_AL_add3_12 rfl (toE_sI (ci := 9) (k := 2) t5 rfl) (fun H locs hR => ?_)
  obtain ⟨h6, eh6⟩ : ∃ z, z = sI h2 902 v0 ((gI h2 902 v0) + (1 : Int32)) := ⟨_, rfl⟩
  rw [← eh6] at hR
  have hw := hw h6 eh6
  refine mx_aload_n (r := some v0) hx hb d_AL_add3_15 rfl (lv_at hl 0 rfl) ?_
  obtain ⟨t7, hw⟩ := hw
  refine mx_get (ci := 9) (C := "java/util/ArrayList") (T := F_AL) (N := 3) hx hb hW hown hK.1 hR (a := v0) rfl t7 rfl i_AL 1 0 (by decide) rfl kw_54 (fun _ h9 => h9) d_AL_add3_16 ?_
  refine lv_dup hx hb d_AL_add3_19 rfl ?_
  refine lv_topi (fun y8 ey8 => ?_)
  have hw := hw y8 ey8
  refine lv_istore_n (i := 3) (lv' := [(3, .int y8), (0, va_rf (some v0)), (1, .int x1), (2, va_rf x2)]) hx hb d_AL_add3_20 rfl hl (by decide) (by simp [mx_rf_cat]) (fun ls hl => ?_)
  refine mx_aload_n (r := some v0) hx hb d_AL_add3_21 rfl (lv_at hl 1 rfl) ?_
  obtain ⟨t9, hw⟩ := hw
  refine mx_get (ci := 9) (C := "java/util/ArrayList") (T := F_AL) (N := 3) hx hb hW hown hK.1 hR (a := v0) rfl t9 rfl i_AL 0 2 (by decide) rfl kw_53 (fun _ h9 => h9) d_AL_add3_22 ?_
  refine lv_dup hx hb d_AL_add3_25 (mx_rf_cat _) ?_
  refine mx_topr (fun y10 ey10 => ?_)
  have hw := hw y10 ey10
  refine mx_astore (i := 4) (r := y10) (lv' := [(4, va_rf y10), (3, .int y8), (0, va_rf (some v0)), (1, .int x1), (2, va_rf x2)]) hx hb d_AL_add3_26 hl (by decide) rfl (fun ls hl => ?_)
  obtain ⟨n11, t12, hw⟩ := hw
  refine mx_alenZ hx hb hK.1 hZ hR t12 d_AL_add3_28 ?_
  refine lv_icmp_ne (tgt := 38) hx hb d_AL_add3_29 (by decide) (fun c13 => ?_) (fun c13 => ?_)
  · have hw := hw.1 c13
    refine W.widen (k := 2) (n := 206) (by decide) (by decide) ?_
    exact mn_AL_add3_38 C post x1 x2 y8 y10 _ _ _ _ hw (lv_sub hl [2, 3, 4, 1, 0] rfl) hR
  · have hw := hw.2 c13
    refine mx_aload_n (r := some v0) hx hb d_AL_add3_32 rfl (lv_at hl 2 rfl) ?_
    obtain ⟨t16, hw⟩ := hw
    refine mx_callr (va_runV (b := v0) (As := []) (rest := []) ⟨hx, hb, hml, hown, hW⟩ (mt_AL_grow2 l D cs Z _ hw) (mx_cwV hW ok_AL_grow2 kw_554 rfl rfl ⟨Nat.le_of_ble_eq_true rfl, Nat.le_of_ble_eq_true rfl⟩) (mx_preV hK hZ hA hR (ci := 9) rfl t16) rfl rfl hl.1 rfl (lv_room (Nat.le_of_ble_eq_true rfl)) d_AL_add3_33 ⟨Nat.le_of_ble_eq_true rfl, Nat.le_of_ble_eq_true rfl⟩) hR hA (fun r14 h15 H locs hw hR => ?_)
    refine W.widen (k := 2) (n := 206) (by decide) (by decide) ?_
    try dsimp only at hw
    refine mx_astore (i := 4) (r := r14) (lv' := [(4, va_rf r14), (3, .int y8), (0, va_rf (some v0)), (1, .int x1), (2, va_rf x2)]) hx hb d_AL_add3_36 hl (by decide) rfl (fun ls hl => ?_)
    exact mn_AL_add3_38 C post x1 x2 y8 r14 _ _ _ _ hw (lv_sub hl [2, 3, 4, 1, 0] rfl) hR
set_option maxHeartbeats 4000000 in
set_option maxRecDepth 100000 in
theorem mn_ARR_fill_5 {D : va_G} {cs : CS} {Z : Nat → Nat} {h0 : HS} {p : Program} {l : Launch} {e : Env} {s : State} {m : MethodId} {args : Array Value} {below : List Frame} {meth : Method} {c : Code} (C : mC D cs Z h0 y_ARR_fill c_ARR_fill 4 none p s m args meth c) (post : HS → Prop) : ∀ (n : Nat) (x0 : Option Nat) (x1 : Int32) (x2 : Int32) (x3 : Int32) (h : HS) (H : Heap) (locs : List Loc) (ls : Array Slot), lpF (wb_ARR_fill_5 Z post) n (x0, x1, x2, x3, h) → lv_has ls 4 [(0, va_rf x0), (1, .int x1), (2, .int x2), (3, .int x3)] → mR D cs (fA h0 s.heap.size) h s.heap H locs → W p l e ({ frames := 2, cells := 0, slots := 0, locals := 100 } : Room) s m args below meth c H locs 0 0 (MQ below (va_Qv post (mB D cs h0 s.heap.size) (fA h0 s.heap.size)) args s 0 0 (fA h0 s.heap.size)) (F0 m 5 ls []) := by
  obtain ⟨hx, hb, hr, hml, hown, hW, hlocks, hnm, hK, hZ⟩ := id C
  have hown : s.vm.findClass "java/util/Arrays" = some m.cls := hown
  have hA : ∀ q, s.heap.size ≤ q → fA h0 s.heap.size q := fun _ h => Or.inr h
  intro n
  induction n with
  | zero => intro x0 x1 x2 x3 h H locs ls hw; exact hw.elim
  | succ n ih =>
    intro x0 x1 x2 x3 h H locs ls hw hl hR
    have hw : wb_ARR_fill_5 Z post (lpF (wb_ARR_fill_5 Z post) n) (x0, x1, x2, x3, h) := hw
    unfold wb_ARR_fill_5 at hw
    dsimp only at hw
    refine lv_iload_n hx hb d_ARR_fill_5 rfl (lv_at hl 2 rfl) ?_
    refine lv_iload_n hx hb d_ARR_fill_6 rfl (lv_at hl 3 rfl) ?_
    refine lv_icmp_ge (tgt := 20) hx hb d_ARR_fill_7 (by decide) (fun c1 => ?_) (fun c1 => ?_)
    · have hw := hw.1 c1
      exact mx_vret hx hb hr hlocks hR hw d_ARR_fill_20
    · have hw := hw.2 c1
      refine mx_aload_n (r := x0) hx hb d_ARR_fill_10 rfl (lv_at hl 0 rfl) ?_
      refine lv_iload_n hx hb d_ARR_fill_11 rfl (lv_at hl 2 rfl) ?_
      refine lv_iload_n hx hb d_ARR_fill_12 rfl (lv_at hl 1 rfl) ?_
      obtain ⟨a2, ea2, t3, t3i, hw⟩ := hw
      refine mx_iast hx hb hK.1 hR (a := a2) ea2 t3 t3i d_ARR_fill_13 (fun H locs hR => ?_)
      obtain ⟨h4, eh4⟩ : ∃ z, z = sA h a2 x2.toNatClampNeg x1 := ⟨_, rfl⟩
      rw [← eh4] at hR
      have hw := hw h4 eh4
      obtain ⟨y5, ey5⟩ : ∃ y : Int32, y = x2 + (1 : Int32) := ⟨_, rfl⟩
      have hw := hw y5 ey5
      refine lv_iinc (v := y5) (lv' := [(2, .int y5), (0, va_rf x0), (1, .int x1), (3, .int x3)]) hx hb d_ARR_fill_14 hl (k := 2) rfl (by rw [ey5]; rfl) (by decide) rfl (fun ls hl => ?_)
      refine lv_goto (tgt := 5) hx hb d_ARR_fill_17 (by decide) ?_
      exact ih x0 x1 y5 x3 _ _ _ _ hw (lv_sub hl [1, 2, 0, 3] rfl) hR
set_option maxHeartbeats 4000000 in
set_option maxRecDepth 100000 in
theorem mt_ARR_fill (l : Launch) (D : va_G) (cs : CS) (Z : Nat → Nat) (sz : Nat) {post : HS → Prop} {h : HS} {x0 : Option Nat} {x1 : Int32} (hw : wp_ARR_fill Z post h x0 x1) : Met l y_ARR_fill (Cond.code y_ARR_fill c_ARR_fill 4 none :: WA) ({ frames := 2, cells := 0, slots := 0, locals := 100 } : Room) (mPc D cs Z h sz [va_rf x0, .int x1]) (va_Qv post (mB D cs h sz) (fA h sz)) 0 0 (fA h sz) := by
  refine mx_met (fun sz => va_Qv post (mB D cs h sz) (fA h sz)) (by decide) (by simp [lg_sl, mx_rf_cat, cat_i, cat_l]) ?_
  intro p e s m args below meth c C hR ls hl
  have hl : lv_has ls 4 [(0, va_rf x0), (1, .int x1)] := by simpa [lv_args, mx_rf_cat, cat_i, cat_l] using hl
  obtain ⟨hx, hb, hr, hml, hown, hW, hlocks, hnm, hK, hZ⟩ := id C
  have hown : s.vm.findClass "java/util/Arrays" = some m.cls := hown
  have hA : ∀ q, s.heap.size ≤ q → fA h s.heap.size q := fun _ h => Or.inr h
  unfold wp_ARR_fill at hw
  refine lv_iconst (v := 0) hx hb d_ARR_fill_0 (by decide) ?_
  refine lv_istore_n (i := 2) (lv' := [(2, .int (0 : Int32)), (0, va_rf x0), (1, .int x1)]) hx hb d_ARR_fill_1 rfl hl (by decide) rfl (fun ls hl => ?_)
  refine mx_aload_n (r := x0) hx hb d_ARR_fill_2 rfl (lv_at hl 1 rfl) ?_
  obtain ⟨a1, ea1, t2, t2i, hw⟩ := hw
  refine mx_alen hx hb hK.1 hR (a := a1) ea1 t2 t2i d_ARR_fill_3 ?_
  refine lv_topi (fun y3 ey3 => ?_)
  have hw := hw y3 ey3
  refine lv_istore_n (i := 3) (lv' := [(3, .int y3), (2, .int (0 : Int32)), (0, va_rf x0), (1, .int x1)]) hx hb d_ARR_fill_4 rfl hl (by decide) rfl (fun ls hl => ?_)
  obtain ⟨n9, hw⟩ := hw
  exact mn_ARR_fill_5 C post n9 x0 x1 (0 : Int32) y3 _ _ _ _ hw (lv_sub hl [2, 3, 1, 0] rfl) hR
