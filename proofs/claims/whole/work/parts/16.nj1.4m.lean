set_option maxHeartbeats 4000000 in
set_option maxRecDepth 100000 in
theorem mt_NJ_nets (l : Launch) (D : va_G) (cs : CS) (Z : Nat → Nat) (sz : Nat) {post : Int32 → HS → Prop} {h : HS} {v0 : Nat}  (hw : wp_NJ_nets Z post h v0 ) : Met l y_NJ_nets (Cond.code y_NJ_nets c_NJ_nets 1 (some .int) :: WA) ({ frames := 2, cells := 0, slots := 0, locals := 100 } : Room) (mPc D cs Z h sz [va_rf (some v0)]) (va_Qi post (mB D cs h sz) (fA h sz)) 0 0 (fA h sz) := by
  refine mx_met (fun sz => va_Qi post (mB D cs h sz) (fA h sz)) (by decide) (by simp [lg_sl, mx_rf_cat, cat_i, cat_l]) ?_
  intro p e s m args below meth c C hR ls hl
  have hl : lv_has ls 1 [(0, va_rf (some v0))] := hl
  obtain ⟨hx, hb, hr, hml, hown, hW, hlocks, hnm, hK, hZ⟩ := id C
  have hown : s.vm.findClass "NetJoins" = some m.cls := hown
  have hA : ∀ q, s.heap.size ≤ q → fA h s.heap.size q := fun _ h => Or.inr h
  unfold wp_NJ_nets at hw
  refine mx_aload_n (r := some v0) hx hb d_NJ_nets_0 rfl (lv_at hl 0 rfl) ?_
  obtain ⟨t1, hw⟩ := hw
  refine mx_get (ci := 0) (C := "NetJoins") (T := F_NJ) (N := 18) hx hb hW hown hK.1 hR (a := v0) rfl t1 rfl i_NJ 11 2 (by decide) rfl kw_131 (fun _ h9 => h9) d_NJ_nets_1 ?_
  obtain ⟨a2, ea2, t3, hw⟩ := hw
  refine mx_get (ci := 3) (C := "NetJoins$NetTable") (T := F_Tab) (N := 7) hx hb hW hown hK.1 hR (a := a2) ea2 t3 rfl i_Tab 5 0 (by decide) rfl kw_102 (fun _ h9 => h9) d_NJ_nets_4 ?_
  exact mx_iret hx hb hr hlocks hR hw d_NJ_nets_7
set_option maxHeartbeats 4000000 in
set_option maxRecDepth 100000 in
theorem mt_NJ_isPower (l : Launch) (D : va_G) (cs : CS) (Z : Nat → Nat) (sz : Nat) {post : Int32 → HS → Prop} {h : HS} {x0 : Int32} (hw : wp_NJ_isPower Z post h x0) : Met l y_NJ_isPower (Cond.code y_NJ_isPower c_NJ_isPower 1 (some .boolean) :: WA) ({ frames := 2, cells := 0, slots := 0, locals := 100 } : Room) (mPc D cs Z h sz [.int x0]) (va_Qi post (mB D cs h sz) (fA h sz)) 0 0 (fA h sz) := by
  refine mx_met (fun sz => va_Qi post (mB D cs h sz) (fA h sz)) (by decide) (by simp [lg_sl, mx_rf_cat, cat_i, cat_l]) ?_
  intro p e s m args below meth c C hR ls hl
  have hl : lv_has ls 1 [(0, .int x0)] := hl
  obtain ⟨hx, hb, hr, hml, hown, hW, hlocks, hnm, hK, hZ⟩ := id C
  have hown : s.vm.findClass "NetJoins" = some m.cls := hown
  have hA : ∀ q, s.heap.size ≤ q → fA h s.heap.size q := fun _ h => Or.inr h
  unfold wp_NJ_isPower at hw
  refine lv_iload_n hx hb d_NJ_isPower_0 rfl (lv_at hl 0 rfl) ?_
  refine lv_sipush (v := 900) hx hb d_NJ_isPower_1 (by decide) ?_
  refine lv_icmp_lt (tgt := 11) hx hb d_NJ_isPower_4 (by decide) (fun c1 => ?_) (fun c1 => ?_)
  · have hw := hw.1 c1
    refine lv_iconst (v := 0) hx hb d_NJ_isPower_11 (by decide) ?_
    exact mx_zret hx hb hr hlocks hR (Or.inl rfl) hw d_NJ_isPower_12
  · have hw := hw.2 c1
    refine lv_iconst (v := 1) hx hb d_NJ_isPower_7 (by decide) ?_
    refine lv_goto (tgt := 12) hx hb d_NJ_isPower_8 (by decide) ?_
    exact mx_zret hx hb hr hlocks hR (Or.inr rfl) hw d_NJ_isPower_12
set_option maxHeartbeats 4000000 in
set_option maxRecDepth 100000 in
theorem mt_NJ_nameNode (l : Launch) (D : va_G) (cs : CS) (Z : Nat → Nat) (sz : Nat) {post : Int32 → HS → Prop} {h : HS} {x0 : Int32} {x1 : Int32} (hw : wp_NJ_nameNode Z post h x0 x1) : Met l y_NJ_nameNode (Cond.code y_NJ_nameNode c_NJ_nameNode 2 (some .int) :: WA) ({ frames := 3, cells := 0, slots := 0, locals := 121 } : Room) (mPc D cs Z h sz [.int x0, .int x1]) (va_Qi post (mB D cs h sz) (fA h sz)) 0 0 (fA h sz) := by
  refine mx_met (fun sz => va_Qi post (mB D cs h sz) (fA h sz)) (by decide) (by simp [lg_sl, mx_rf_cat, cat_i, cat_l]) ?_
  intro p e s m args below meth c C hR ls hl
  have hl : lv_has ls 2 [(0, .int x0), (1, .int x1)] := hl
  obtain ⟨hx, hb, hr, hml, hown, hW, hlocks, hnm, hK, hZ⟩ := id C
  have hown : s.vm.findClass "NetJoins" = some m.cls := hown
  have hA : ∀ q, s.heap.size ≤ q → fA h s.heap.size q := fun _ h => Or.inr h
  unfold wp_NJ_nameNode at hw
  refine lv_iload_n hx hb d_NJ_nameNode_0 rfl (lv_at hl 1 rfl) ?_
  refine mx_calli (va_runS (As := [.int x1]) (rest := []) ⟨hx, hb, hml, hown, hW⟩ (mt_NJ_isPower l D cs Z _ hw) (mx_cwS hW ok_NJ_isPower kw_219 rfl rfl ⟨Nat.le_of_ble_eq_true rfl, Nat.le_of_ble_eq_true rfl⟩) (mx_preS hK hZ hA hR) rfl rfl hl.1 rfl (lv_room (Nat.le_of_ble_eq_true rfl)) d_NJ_nameNode_1 ⟨Nat.le_of_ble_eq_true rfl, Nat.le_of_ble_eq_true rfl⟩) hR hA (fun r1 h2 H locs hw hR => ?_)
  try dsimp only at hw
  refine lv_if_eq (tgt := 19) hx hb d_NJ_nameNode_4 (by decide) (fun c3 => ?_) (fun c3 => ?_)
  · have hw := hw.1 c3
    refine lv_iconst (v := 1) hx hb d_NJ_nameNode_19 (by decide) ?_
    refine lv_iload_n hx hb d_NJ_nameNode_20 rfl (lv_at hl 0 rfl) ?_
    refine lv_iadd hx hb d_NJ_nameNode_21 ?_
    refine lv_iload_n hx hb d_NJ_nameNode_22 rfl (lv_at hl 1 rfl) ?_
    refine mx_calli (va_runS (As := [.int ((1 : Int32) + x0), .int x1]) (rest := []) ⟨hx, hb, hml, hown, hW⟩ (mt_Joins_node l D cs Z _ hw) (mx_cwS hW ok_Joins_node kw_222 rfl rfl ⟨Nat.le_of_ble_eq_true rfl, Nat.le_of_ble_eq_true rfl⟩) (mx_preS hK hZ hA hR) rfl rfl hl.1 rfl (lv_room (Nat.le_of_ble_eq_true rfl)) d_NJ_nameNode_23 ⟨Nat.le_of_ble_eq_true rfl, Nat.le_of_ble_eq_true rfl⟩) hR hA (fun r4 h5 H locs hw hR => ?_)
    try dsimp only at hw
    exact mx_iret hx hb hr hlocks hR hw d_NJ_nameNode_26
  · have hw := hw.2 c3
    refine lv_sipush (v := 960) hx hb d_NJ_nameNode_7 (by decide) ?_
    refine lv_iload_n hx hb d_NJ_nameNode_10 rfl (lv_at hl 1 rfl) ?_
    refine lv_iadd hx hb d_NJ_nameNode_11 ?_
    refine lv_sipush (v := 900) hx hb d_NJ_nameNode_12 (by decide) ?_
    refine lv_isub hx hb d_NJ_nameNode_15 ?_
    refine lv_goto (tgt := 26) hx hb d_NJ_nameNode_16 (by decide) ?_
    exact mx_iret hx hb hr hlocks hR hw d_NJ_nameNode_26
set_option maxHeartbeats 4000000 in
set_option maxRecDepth 100000 in
theorem mt_NJ_netOfLabel (l : Launch) (D : va_G) (cs : CS) (Z : Nat → Nat) (sz : Nat) {post : Int32 → HS → Prop} {h : HS} {v0 : Nat} {x1 : Option Nat} {x2 : Option Nat} (hw : wp_NJ_netOfLabel Z post h v0 x1 x2) : Met l y_NJ_netOfLabel (Cond.code y_NJ_netOfLabel c_NJ_netOfLabel 4 (some .int) :: WA) ({ frames := 4, cells := 0, slots := 0, locals := 146 } : Room) (mPc D cs Z h sz [va_rf (some v0), va_rf x1, va_rf x2]) (va_Qi post (mB D cs h sz) (fA h sz)) 0 0 (fA h sz) := by
  refine mx_met (fun sz => va_Qi post (mB D cs h sz) (fA h sz)) (by decide) (by simp [lg_sl, mx_rf_cat, cat_i, cat_l]) ?_
  intro p e s m args below meth c C hR ls hl
  have hl : lv_has ls 4 [(0, va_rf (some v0)), (1, va_rf x1), (2, va_rf x2)] := by simpa [lv_args, mx_rf_cat, cat_i, cat_l] using hl
  obtain ⟨hx, hb, hr, hml, hown, hW, hlocks, hnm, hK, hZ⟩ := id C
  have hown : s.vm.findClass "NetJoins" = some m.cls := hown
  have hA : ∀ q, s.heap.size ≤ q → fA h s.heap.size q := fun _ h => Or.inr h
  unfold wp_NJ_netOfLabel at hw
  refine mx_aload_n (r := x2) hx hb d_NJ_netOfLabel_0 rfl (lv_at hl 2 rfl) ?_
  obtain ⟨a1, ea1, t2, hw⟩ := hw
  refine mx_get (ci := 5) (C := "NetJoins$Sheet") (T := F_Sheet) (N := 5) hx hb hW hown hK.1 hR (a := a1) ea1 t2 rfl i_Sheet 2 0 (by decide) rfl kw_526 (fun _ h9 => h9) d_NJ_netOfLabel_1 ?_
  refine mx_aload_n (r := x1) hx hb d_NJ_netOfLabel_4 rfl (lv_at hl 1 rfl) ?_
  obtain ⟨a3, ea3, t4, hw⟩ := hw
  refine mx_get (ci := 6) (C := "NetJoins$Spot") (T := F_Spot) (N := 6) hx hb hW hown hK.1 hR (a := a3) ea3 t4 rfl i_Spot 0 0 (by decide) rfl kw_700 (fun _ h9 => h9) d_NJ_netOfLabel_5 ?_
  refine lv_icmp_eq (tgt := 13) hx hb d_NJ_netOfLabel_8 (by decide) (fun c5 => ?_) (fun c5 => ?_)
  · have hw := hw.1 c5
    refine mx_aload_n (r := some v0) hx hb d_NJ_netOfLabel_13 rfl (lv_at hl 0 rfl) ?_
    obtain ⟨t6, hw⟩ := hw
    refine mx_get (ci := 0) (C := "NetJoins") (T := F_NJ) (N := 18) hx hb hW hown hK.1 hR (a := v0) rfl t6 rfl i_NJ 10 2 (by decide) rfl kw_130 (fun _ h9 => h9) d_NJ_netOfLabel_14 ?_
    refine mx_aload_n (r := x2) hx hb d_NJ_netOfLabel_17 rfl (lv_at hl 2 rfl) ?_
    obtain ⟨a7, ea7, t8, hw⟩ := hw
    refine mx_get (ci := 5) (C := "NetJoins$Sheet") (T := F_Sheet) (N := 5) hx hb hW hown hK.1 hR (a := a7) ea7 t8 rfl i_Sheet 0 0 (by decide) rfl kw_522 (fun _ h9 => h9) d_NJ_netOfLabel_18 ?_
    refine mx_aload_n (r := x1) hx hb d_NJ_netOfLabel_21 rfl (lv_at hl 1 rfl) ?_
    obtain ⟨a9, ea9, t10, hw⟩ := hw
    refine mx_get (ci := 6) (C := "NetJoins$Spot") (T := F_Spot) (N := 6) hx hb hW hown hK.1 hR (a := a9) ea9 t10 rfl i_Spot 3 0 (by decide) rfl kw_708 (fun _ h9 => h9) d_NJ_netOfLabel_22 ?_
    refine mx_calli (va_runS (As := [.int (gI h 500 a7), .int (gI h 603 a9)]) (rest := [va_rf (gR h 10 v0)]) ⟨hx, hb, hml, hown, hW⟩ (mt_NJ_nameNode l D cs Z _ hw) (mx_cwS hW ok_NJ_nameNode kw_216 rfl rfl ⟨Nat.le_of_ble_eq_true rfl, Nat.le_of_ble_eq_true rfl⟩) (mx_preS hK hZ hA hR) rfl rfl hl.1 rfl (lv_room (by simp [mx_rf_cat, cat_i, cat_l])) d_NJ_netOfLabel_25 ⟨Nat.le_of_ble_eq_true rfl, Nat.le_of_ble_eq_true rfl⟩) hR hA (fun r11 h12 H locs hw hR => ?_)
    try dsimp only at hw
    obtain ⟨a15, ea15, t16, hw⟩ := hw
    refine W.eq (g2 := F0 m 28 ls [.int r11, va_rf (some a15)]) (by rw [← ea15] <;> rfl) ?_
    refine mx_calli (va_runV (b := a15) (As := [.int r11]) (rest := []) ⟨hx, hb, hml, hown, hW⟩ (mt_Joins_root l D cs Z _ hw) (mx_cwV hW ok_Joins_root kw_223 rfl rfl ⟨Nat.le_of_ble_eq_true rfl, Nat.le_of_ble_eq_true rfl⟩) (mx_preV hK hZ hA hR (ci := 2) rfl t16) rfl rfl hl.1 rfl (lv_room (Nat.le_of_ble_eq_true rfl)) d_NJ_netOfLabel_28 ⟨Nat.le_of_ble_eq_true rfl, Nat.le_of_ble_eq_true rfl⟩) hR hA (fun r13 h14 H locs hw hR => ?_)
    try dsimp only at hw
    refine lv_istore_n (i := 3) (lv' := [(3, .int r13), (0, va_rf (some v0)), (1, va_rf x1), (2, va_rf x2)]) hx hb d_NJ_netOfLabel_31 rfl hl (by decide) (by simp [mx_rf_cat]) (fun ls hl => ?_)
    refine lv_iload_n hx hb d_NJ_netOfLabel_32 rfl (lv_at hl 0 rfl) ?_
    refine lv_sipush (v := 960) hx hb d_NJ_netOfLabel_33 (by decide) ?_
    refine lv_icmp_ge (tgt := 51) hx hb d_NJ_netOfLabel_36 (by decide) (fun c17 => ?_) (fun c17 => ?_)
    · have hw := hw.1 c17
      refine lv_iconst (v := (-1)) hx hb d_NJ_netOfLabel_51 (by decide) ?_
      exact mx_iret hx hb hr hlocks hR hw d_NJ_netOfLabel_52
    · have hw := hw.2 c17
      refine mx_aload_n (r := some v0) hx hb d_NJ_netOfLabel_39 rfl (lv_at hl 1 rfl) ?_
      obtain ⟨t18, hw⟩ := hw
      refine mx_get (ci := 0) (C := "NetJoins") (T := F_NJ) (N := 18) hx hb hW hown hK.1 hR (a := v0) rfl t18 rfl i_NJ 11 2 (by decide) rfl kw_131 (fun _ h9 => h9) d_NJ_netOfLabel_40 ?_
      obtain ⟨a19, ea19, t20, hw⟩ := hw
      refine mx_get (ci := 3) (C := "NetJoins$NetTable") (T := F_Tab) (N := 7) hx hb hW hown hK.1 hR (a := a19) ea19 t20 rfl i_Tab 2 2 (by decide) rfl kw_97 (fun _ h9 => h9) d_NJ_netOfLabel_43 ?_
      refine lv_iload_n hx hb d_NJ_netOfLabel_46 rfl (lv_at hl 0 rfl) ?_
      obtain ⟨a21, ea21, t22, t22i, hw⟩ := hw
      refine mx_iald hx hb hK.1 hR (a := a21) ea21 t22 t22i d_NJ_netOfLabel_47 ?_
      refine lv_goto (tgt := 52) hx hb d_NJ_netOfLabel_48 (by decide) ?_
      exact mx_iret hx hb hr hlocks hR hw d_NJ_netOfLabel_52
  · have hw := hw.2 c5
    refine lv_iconst (v := (-1)) hx hb d_NJ_netOfLabel_11 (by decide) ?_
    exact mx_iret hx hb hr hlocks hR hw d_NJ_netOfLabel_12
set_option maxHeartbeats 4000000 in
set_option maxRecDepth 100000 in
theorem mn_NJ_listNames_227 {D : va_G} {cs : CS} {Z : Nat → Nat} {h0 : HS} {p : Program} {l : Launch} {e : Env} {s : State} {m : MethodId} {args : Array Value} {below : List Frame} {meth : Method} {c : Code} {v0 : Nat} (C : mC D cs Z h0 y_NJ_listNames c_NJ_listNames 4 none p s m args meth c) (post : HS → Prop) (K143 : Int32 × HS → Prop) (K149 : Int32 × Int32 × HS → Prop) (hK143 : ∀ (x1 : Int32) (h : HS) (H : Heap) (locs : List Loc) (ls : Array Slot), K143 (x1, h) → lv_has ls 4 [(0, va_rf (some v0)), (1, .int x1)] → mR D cs (fA h0 s.heap.size) h s.heap H locs → W p l e ({ frames := 5, cells := 0, slots := 0, locals := 169 } : Room) s m args below meth c H locs 0 0 (MQ below (va_Qv post (mB D cs h0 s.heap.size) (fA h0 s.heap.size)) args s 0 0 (fA h0 s.heap.size)) (F0 m 143 ls [])) (hK149 : ∀ (x1 : Int32) (x2 : Int32) (h : HS) (H : Heap) (locs : List Loc) (ls : Array Slot), K149 (x1, x2, h) → lv_has ls 4 [(0, va_rf (some v0)), (1, .int x1), (2, .int x2)] → mR D cs (fA h0 s.heap.size) h s.heap H locs → W p l e ({ frames := 5, cells := 0, slots := 0, locals := 169 } : Room) s m args below meth c H locs 0 0 (MQ below (va_Qv post (mB D cs h0 s.heap.size) (fA h0 s.heap.size)) args s 0 0 (fA h0 s.heap.size)) (F0 m 149 ls [])) : ∀ (x1 : Int32) (x2 : Int32) (h : HS) (H : Heap) (locs : List Loc) (ls : Array Slot), wj_NJ_listNames_227 Z post K143 K149 v0 x1 x2 h → lv_has ls 4 [(0, va_rf (some v0)), (1, .int x1), (2, .int x2)] → mR D cs (fA h0 s.heap.size) h s.heap H locs → W p l e ({ frames := 5, cells := 0, slots := 0, locals := 169 } : Room) s m args below meth c H locs 0 0 (MQ below (va_Qv post (mB D cs h0 s.heap.size) (fA h0 s.heap.size)) args s 0 0 (fA h0 s.heap.size)) (F0 m 227 ls []) := by
  obtain ⟨hx, hb, hr, hml, hown, hW, hlocks, hnm, hK, hZ⟩ := id C
  have hown : s.vm.findClass "NetJoins" = some m.cls := hown
  have hA : ∀ q, s.heap.size ≤ q → fA h0 s.heap.size q := fun _ h => Or.inr h
  intro x1 x2 h H locs ls hw hl hR
  unfold wj_NJ_listNames_227 at hw
  obtain ⟨y1, ey1⟩ : ∃ y : Int32, y = x2 + (1 : Int32) := ⟨_, rfl⟩
  have hw := hw y1 ey1
  refine lv_iinc (v := y1) (lv' := [(2, .int y1), (0, va_rf (some v0)), (1, .int x1)]) hx hb d_NJ_listNames_227 hl (k := 2) rfl (by rw [ey1]; rfl) (by decide) rfl (fun ls hl => ?_)
  refine lv_goto (tgt := 149) hx hb d_NJ_listNames_230 (by decide) ?_
  exact hK149 x1 y1 _ _ _ _ hw (lv_sub hl [1, 2, 0] rfl) hR
set_option maxHeartbeats 4000000 in
set_option maxRecDepth 100000 in
theorem mn_NJ_listNames_149 {D : va_G} {cs : CS} {Z : Nat → Nat} {h0 : HS} {p : Program} {l : Launch} {e : Env} {s : State} {m : MethodId} {args : Array Value} {below : List Frame} {meth : Method} {c : Code} {v0 : Nat} (C : mC D cs Z h0 y_NJ_listNames c_NJ_listNames 4 none p s m args meth c) (post : HS → Prop) (K143 : Int32 × HS → Prop) (hK143 : ∀ (x1 : Int32) (h : HS) (H : Heap) (locs : List Loc) (ls : Array Slot), K143 (x1, h) → lv_has ls 4 [(0, va_rf (some v0)), (1, .int x1)] → mR D cs (fA h0 s.heap.size) h s.heap H locs → W p l e ({ frames := 5, cells := 0, slots := 0, locals := 169 } : Room) s m args below meth c H locs 0 0 (MQ below (va_Qv post (mB D cs h0 s.heap.size) (fA h0 s.heap.size)) args s 0 0 (fA h0 s.heap.size)) (F0 m 143 ls [])) : ∀ (n : Nat) (x1 : Int32) (x2 : Int32) (h : HS) (H : Heap) (locs : List Loc) (ls : Array Slot), lpF (wb_NJ_listNames_149 Z post K143 v0) n (x1, x2, h) → lv_has ls 4 [(0, va_rf (some v0)), (1, .int x1), (2, .int x2)] → mR D cs (fA h0 s.heap.size) h s.heap H locs → W p l e ({ frames := 5, cells := 0, slots := 0, locals := 169 } : Room) s m args below meth c H locs 0 0 (MQ below (va_Qv post (mB D cs h0 s.heap.size) (fA h0 s.heap.size)) args s 0 0 (fA h0 s.heap.size)) (F0 m 149 ls []) := by
  obtain ⟨hx, hb, hr, hml, hown, hW, hlocks, hnm, hK, hZ⟩ := id C
  have hown : s.vm.findClass "NetJoins" = some m.cls := hown
  have hA : ∀ q, s.heap.size ≤ q → fA h0 s.heap.size q := fun _ h => Or.inr h
  intro n
  induction n with
  | zero => intro x1 x2 h H locs ls hw; exact hw.elim
  | succ n ih =>
    intro x1 x2 h H locs ls hw hl hR
    have hw : wb_NJ_listNames_149 Z post K143 v0 (lpF (wb_NJ_listNames_149 Z post K143 v0) n) (x1, x2, h) := hw
    unfold wb_NJ_listNames_149 at hw
    dsimp only at hw
    refine lv_iload_n hx hb d_NJ_listNames_149 rfl (lv_at hl 2 rfl) ?_
    refine mx_aload_n (r := some v0) hx hb d_NJ_listNames_150 rfl (lv_at hl 0 rfl) ?_
    obtain ⟨t1, hw⟩ := hw
    refine mx_get (ci := 0) (C := "NetJoins") (T := F_NJ) (N := 18) hx hb hW hown hK.1 hR (a := v0) rfl t1 rfl i_NJ 0 2 (by decide) rfl kw_120 (fun _ h9 => h9) d_NJ_listNames_151 ?_
    obtain ⟨a4, ea4, t5, hw⟩ := hw
    refine W.eq (g2 := F0 m 154 ls [va_rf (some a4), .int x2]) (by rw [← ea4] <;> rfl) ?_
    refine mx_calli (va_runV (b := a4) (As := []) (rest := [.int x2]) ⟨hx, hb, hml, hown, hW⟩ (mt_AL_size l D cs Z _ hw) (mx_cwV hW ok_AL_size kw_192 rfl rfl ⟨Nat.le_of_ble_eq_true rfl, Nat.le_of_ble_eq_true rfl⟩) (mx_preV hK hZ hA hR (ci := 9) rfl t5) rfl rfl hl.1 rfl (lv_room (Nat.le_of_ble_eq_true rfl)) d_NJ_listNames_154 ⟨Nat.le_of_ble_eq_true rfl, Nat.le_of_ble_eq_true rfl⟩) hR hA (fun r2 h3 H locs hw hR => ?_)
    try dsimp only at hw
    refine lv_icmp_ge (tgt := 233) hx hb d_NJ_listNames_157 (by decide) (fun c6 => ?_) (fun c6 => ?_)
    · have hw := hw.1 c6
      obtain ⟨y7, ey7⟩ : ∃ y : Int32, y = x1 + (-1 : Int32) := ⟨_, rfl⟩
      have hw := hw y7 ey7
      refine lv_iinc (v := y7) (lv' := [(1, .int y7), (0, va_rf (some v0)), (2, .int x2)]) hx hb d_NJ_listNames_233 hl (k := 1) rfl (by rw [ey7]; rfl) (by decide) rfl (fun ls hl => ?_)
      refine lv_goto (tgt := 143) hx hb d_NJ_listNames_236 (by decide) ?_
      exact hK143 y7 _ _ _ _ hw (lv_sub hl [1, 0] rfl) hR
    · have hw := hw.2 c6
      refine mx_aload_n (r := some v0) hx hb d_NJ_listNames_160 rfl (lv_at hl 0 rfl) ?_
      refine mx_aload_n (r := some v0) hx hb d_NJ_listNames_161 rfl (lv_at hl 0 rfl) ?_
      obtain ⟨t8, hw⟩ := hw
      refine mx_get (ci := 0) (C := "NetJoins") (T := F_NJ) (N := 18) hx hb hW hown hK.1 hR (a := v0) rfl t8 rfl i_NJ 4 2 (by decide) rfl kw_124 (fun _ h9 => h9) d_NJ_listNames_162 ?_
      refine lv_iload_n hx hb d_NJ_listNames_165 rfl (lv_at hl 1 rfl) ?_
      obtain ⟨a11, ea11, t12, hw⟩ := hw
      refine W.eq (g2 := F0 m 166 ls [.int x1, va_rf (some a11), va_rf (some v0)]) (by rw [← ea11] <;> rfl) ?_
      refine mx_callr (va_runV (b := a11) (As := [.int x1]) (rest := [va_rf (some v0)]) ⟨hx, hb, hml, hown, hW⟩ (mt_AL_get l D cs Z _ hw) (mx_cwV hW ok_AL_get kw_196 rfl rfl ⟨Nat.le_of_ble_eq_true rfl, Nat.le_of_ble_eq_true rfl⟩) (mx_preV hK hZ hA hR (ci := 9) rfl t12) rfl rfl hl.1 rfl (lv_room (Nat.le_of_ble_eq_true rfl)) d_NJ_listNames_166 ⟨Nat.le_of_ble_eq_true rfl, Nat.le_of_ble_eq_true rfl⟩) hR hA (fun r9 h10 H locs hw hR => ?_)
      try dsimp only at hw
      obtain ⟨t13, hw⟩ := hw
      refine mx_cast (ci := 6) (C := "NetJoins$Spot") (T := F_Spot) (N := 6) hx hb hW hown hK.1 hR rfl kw_210 t13 d_NJ_listNames_169 ?_
      refine mx_aload_n (r := some v0) hx hb d_NJ_listNames_172 rfl (lv_at hl 0 rfl) ?_
      obtain ⟨t14, hw⟩ := hw
      refine mx_get (ci := 0) (C := "NetJoins") (T := F_NJ) (N := 18) hx hb hW hown hK.1 hR (a := v0) rfl t14 rfl i_NJ 0 2 (by decide) rfl kw_120 (fun _ h9 => h9) d_NJ_listNames_173 ?_
      refine lv_iload_n hx hb d_NJ_listNames_176 rfl (lv_at hl 2 rfl) ?_
      obtain ⟨a17, ea17, t18, hw⟩ := hw
      refine W.eq (g2 := F0 m 177 ls [.int x2, va_rf (some a17), va_rf r9, va_rf (some v0)]) (by rw [← ea17] <;> rfl) ?_
      refine mx_callr (va_runV (b := a17) (As := [.int x2]) (rest := [va_rf r9, va_rf (some v0)]) ⟨hx, hb, hml, hown, hW⟩ (mt_AL_get l D cs Z _ hw) (mx_cwV hW ok_AL_get kw_196 rfl rfl ⟨Nat.le_of_ble_eq_true rfl, Nat.le_of_ble_eq_true rfl⟩) (mx_preV hK hZ hA hR (ci := 9) rfl t18) rfl rfl hl.1 rfl (lv_room (by simp [mx_rf_cat, cat_i, cat_l])) d_NJ_listNames_177 ⟨Nat.le_of_ble_eq_true rfl, Nat.le_of_ble_eq_true rfl⟩) hR hA (fun r15 h16 H locs hw hR => ?_)
      try dsimp only at hw
      obtain ⟨t19, hw⟩ := hw
      refine mx_cast (ci := 5) (C := "NetJoins$Sheet") (T := F_Sheet) (N := 5) hx hb hW hown hK.1 hR rfl kw_211 t19 d_NJ_listNames_180 ?_
      obtain ⟨t22, hw⟩ := hw
      refine mx_calli (va_runV (b := v0) (As := [va_rf r9, va_rf r15]) (rest := []) ⟨hx, hb, hml, hown, hW⟩ (mt_NJ_netOfLabel l D cs Z _ hw) (mx_cwV hW ok_NJ_netOfLabel kw_212 rfl rfl ⟨Nat.le_of_ble_eq_true rfl, Nat.le_of_ble_eq_true rfl⟩) (mx_preV hK hZ hA hR (ci := 0) rfl t22) rfl rfl hl.1 rfl (lv_room (Nat.le_of_ble_eq_true rfl)) d_NJ_listNames_183 ⟨Nat.le_of_ble_eq_true rfl, Nat.le_of_ble_eq_true rfl⟩) hR hA (fun r20 h21 H locs hw hR => ?_)
      try dsimp only at hw
      refine lv_istore_n (i := 3) (lv' := [(3, .int r20), (0, va_rf (some v0)), (1, .int x1), (2, .int x2)]) hx hb d_NJ_listNames_186 rfl hl (by decide) rfl (fun ls hl => ?_)
      refine lv_iload_n hx hb d_NJ_listNames_187 rfl (lv_at hl 0 rfl) ?_
      refine lv_iconst (v := (-1)) hx hb d_NJ_listNames_188 (by decide) ?_
      refine lv_icmp_eq (tgt := 227) hx hb d_NJ_listNames_189 (by decide) (fun c23 => ?_) (fun c23 => ?_)
      · have hw := hw.1 c23
        exact mn_NJ_listNames_227 C post K143 (lpF (wb_NJ_listNames_149 Z post K143 v0) n) hK143 ih x1 x2 _ _ _ _ hw (lv_sub hl [1, 2, 3] rfl) hR
      · have hw := hw.2 c23
        refine mx_aload_n (r := some v0) hx hb d_NJ_listNames_192 rfl (lv_at hl 1 rfl) ?_
        obtain ⟨t24, hw⟩ := hw
        refine mx_get (ci := 0) (C := "NetJoins") (T := F_NJ) (N := 18) hx hb hW hown hK.1 hR (a := v0) rfl t24 rfl i_NJ 12 2 (by decide) rfl kw_132 (fun _ h9 => h9) d_NJ_listNames_193 ?_
        refine lv_iload_n hx hb d_NJ_listNames_196 rfl (lv_at hl 0 rfl) ?_
        refine lv_dup2_11 hx hb d_NJ_listNames_197 rfl (mx_rf_cat _) ?_
        obtain ⟨a25, ea25, t26, t26i, hw⟩ := hw
        refine mx_iald hx hb hK.1 hR (a := a25) ea25 t26 t26i d_NJ_listNames_198 ?_
        refine lv_iconst (v := 1) hx hb d_NJ_listNames_199 (by decide) ?_
        refine lv_isub hx hb d_NJ_listNames_200 ?_
        obtain ⟨a27, ea27, t28, t28i, hw⟩ := hw
        refine mx_iast hx hb hK.1 hR (a := a27) ea27 t28 t28i d_NJ_listNames_201 (fun H locs hR => ?_)
        obtain ⟨h29, eh29⟩ : ∃ z, z = sA h21 a27 r20.toNatClampNeg ((gA h21 a25 r20.toNatClampNeg) - (1 : Int32)) := ⟨_, rfl⟩
        rw [← eh29] at hR
        have hw := hw h29 eh29
        refine mx_aload_n (r := some v0) hx hb d_NJ_listNames_202 rfl (lv_at hl 1 rfl) ?_
        obtain ⟨t30, hw⟩ := hw
        refine mx_get (ci := 0) (C := "NetJoins") (T := F_NJ) (N := 18) hx hb hW hown hK.1 hR (a := v0) rfl t30 rfl i_NJ 13 2 (by decide) rfl kw_133 (fun _ h9 => h9) d_NJ_listNames_203 ?_
        refine mx_aload_n (r := some v0) hx hb d_NJ_listNames_206 rfl (lv_at hl 1 rfl) ?_
        obtain ⟨t31, hw⟩ := hw
        refine mx_get (ci := 0) (C := "NetJoins") (T := F_NJ) (N := 18) hx hb hW hown hK.1 hR (a := v0) rfl t31 rfl i_NJ 12 2 (by decide) rfl kw_132 (fun _ h9 => h9) d_NJ_listNames_207 ?_
        refine lv_iload_n hx hb d_NJ_listNames_210 rfl (lv_at hl 0 rfl) ?_
        obtain ⟨a32, ea32, t33, t33i, hw⟩ := hw
        refine mx_iald hx hb hK.1 hR (a := a32) ea32 t33 t33i d_NJ_listNames_211 ?_
        refine mx_aload_n (r := some v0) hx hb d_NJ_listNames_212 rfl (lv_at hl 1 rfl) ?_
        obtain ⟨t34, hw⟩ := hw
        refine mx_get (ci := 0) (C := "NetJoins") (T := F_NJ) (N := 18) hx hb hW hown hK.1 hR (a := v0) rfl t34 rfl i_NJ 4 2 (by decide) rfl kw_124 (fun _ h9 => h9) d_NJ_listNames_213 ?_
        refine lv_iload_n hx hb d_NJ_listNames_216 rfl (lv_at hl 2 rfl) ?_
        obtain ⟨a37, ea37, t38, hw⟩ := hw
        refine W.eq (g2 := F0 m 217 ls [.int x1, va_rf (some a37), .int (gA h29 a32 r20.toNatClampNeg), va_rf (gR h29 13 v0)]) (by rw [← ea37] <;> rfl) ?_
        refine mx_callr (va_runV (b := a37) (As := [.int x1]) (rest := [.int (gA h29 a32 r20.toNatClampNeg), va_rf (gR h29 13 v0)]) ⟨hx, hb, hml, hown, hW⟩ (mt_AL_get l D cs Z _ hw) (mx_cwV hW ok_AL_get kw_196 rfl rfl ⟨Nat.le_of_ble_eq_true rfl, Nat.le_of_ble_eq_true rfl⟩) (mx_preV hK hZ hA hR (ci := 9) rfl t38) rfl rfl hl.1 rfl (lv_room (by simp [mx_rf_cat, cat_i, cat_l])) d_NJ_listNames_217 ⟨Nat.le_of_ble_eq_true rfl, Nat.le_of_ble_eq_true rfl⟩) hR hA (fun r35 h36 H locs hw hR => ?_)
        try dsimp only at hw
        obtain ⟨t39, hw⟩ := hw
        refine mx_cast (ci := 6) (C := "NetJoins$Spot") (T := F_Spot) (N := 6) hx hb hW hown hK.1 hR rfl kw_210 t39 d_NJ_listNames_220 ?_
        obtain ⟨a40, ea40, t41, hw⟩ := hw
        refine mx_get (ci := 6) (C := "NetJoins$Spot") (T := F_Spot) (N := 6) hx hb hW hown hK.1 hR (a := a40) ea40 t41 rfl i_Spot 3 0 (by decide) rfl kw_708 (fun _ h9 => h9) d_NJ_listNames_223 ?_
        obtain ⟨a42, ea42, t43, t43i, hw⟩ := hw
        refine mx_iast hx hb hK.1 hR (a := a42) ea42 t43 t43i d_NJ_listNames_226 (fun H locs hR => ?_)
        obtain ⟨h44, eh44⟩ : ∃ z, z = sA h36 a42 (gA h29 a32 r20.toNatClampNeg).toNatClampNeg (gI h36 603 a40) := ⟨_, rfl⟩
        rw [← eh44] at hR
        have hw := hw h44 eh44
        exact mn_NJ_listNames_227 C post K143 (lpF (wb_NJ_listNames_149 Z post K143 v0) n) hK143 ih x1 x2 _ _ _ _ hw (lv_sub hl [1, 2, 3] rfl) hR
set_option maxHeartbeats 4000000 in
set_option maxRecDepth 100000 in
theorem mn_NJ_listNames_143 {D : va_G} {cs : CS} {Z : Nat → Nat} {h0 : HS} {p : Program} {l : Launch} {e : Env} {s : State} {m : MethodId} {args : Array Value} {below : List Frame} {meth : Method} {c : Code} {v0 : Nat} (C : mC D cs Z h0 y_NJ_listNames c_NJ_listNames 4 none p s m args meth c) (post : HS → Prop) : ∀ (n : Nat) (x1 : Int32) (h : HS) (H : Heap) (locs : List Loc) (ls : Array Slot), lpF (wb_NJ_listNames_143 Z post v0) n (x1, h) → lv_has ls 4 [(0, va_rf (some v0)), (1, .int x1)] → mR D cs (fA h0 s.heap.size) h s.heap H locs → W p l e ({ frames := 5, cells := 0, slots := 0, locals := 169 } : Room) s m args below meth c H locs 0 0 (MQ below (va_Qv post (mB D cs h0 s.heap.size) (fA h0 s.heap.size)) args s 0 0 (fA h0 s.heap.size)) (F0 m 143 ls []) := by
  obtain ⟨hx, hb, hr, hml, hown, hW, hlocks, hnm, hK, hZ⟩ := id C
  have hown : s.vm.findClass "NetJoins" = some m.cls := hown
  have hA : ∀ q, s.heap.size ≤ q → fA h0 s.heap.size q := fun _ h => Or.inr h
  intro n
  induction n with
  | zero => intro x1 h H locs ls hw; exact hw.elim
  | succ n ih =>
    intro x1 h H locs ls hw hl hR
    have hw : wb_NJ_listNames_143 Z post v0 (lpF (wb_NJ_listNames_143 Z post v0) n) (x1, h) := hw
    unfold wb_NJ_listNames_143 at hw
    dsimp only at hw
    refine lv_iload_n hx hb d_NJ_listNames_143 rfl (lv_at hl 1 rfl) ?_
    refine lv_if_lt (tgt := 239) hx hb d_NJ_listNames_144 (by decide) (fun c1 => ?_) (fun c1 => ?_)
    · have hw := hw.1 c1
      refine mx_aload_n (r := some v0) hx hb d_NJ_listNames_239 rfl (lv_at hl 0 rfl) ?_
      refine lv_iconst (v := 1) hx hb d_NJ_listNames_240 (by decide) ?_
      obtain ⟨t2, hw⟩ := hw
      obtain ⟨z3, hw⟩ := hw
      refine mx_put (ci := 0) (C := "NetJoins") (T := F_NJ) (N := 18) (v := .int (1 : Int32)) (h' := sI h 14 v0 (1 : Int32)) hx hb hW hown hK.1 hR (a := v0) rfl t2 rfl i_NJ t_NJ t_NJ_ok n_NJ 14 0 (by decide) rfl kw_134 (fun _ h9 => h9) rfl (mx_z_n z3).1 (mx_z_n z3).2 d_NJ_listNames_241 rfl (toE_sI (ci := 0) (k := 14) t2 rfl) (fun H locs hR => ?_)
      obtain ⟨h4, eh4⟩ : ∃ z, z = sI h 14 v0 (1 : Int32) := ⟨_, rfl⟩
      rw [← eh4] at hR
      have hw := hw h4 eh4
      exact mx_vret hx hb hr hlocks hR hw d_NJ_listNames_244
    · have hw := hw.2 c1
      refine lv_iconst (v := 0) hx hb d_NJ_listNames_147 (by decide) ?_
      refine lv_istore_n (i := 2) (lv' := [(2, .int (0 : Int32)), (0, va_rf (some v0)), (1, .int x1)]) hx hb d_NJ_listNames_148 rfl hl (by decide) rfl (fun ls hl => ?_)
      obtain ⟨n9, hw⟩ := hw
      exact mn_NJ_listNames_149 C post (lpF (wb_NJ_listNames_143 Z post v0) n) ih n9 x1 (0 : Int32) _ _ _ _ hw (lv_sub hl [1, 2, 0] rfl) hR
set_option maxHeartbeats 4000000 in
set_option maxRecDepth 100000 in
theorem mn_NJ_listNames_99 {D : va_G} {cs : CS} {Z : Nat → Nat} {h0 : HS} {p : Program} {l : Launch} {e : Env} {s : State} {m : MethodId} {args : Array Value} {below : List Frame} {meth : Method} {c : Code} {v0 : Nat} (C : mC D cs Z h0 y_NJ_listNames c_NJ_listNames 4 none p s m args meth c) (post : HS → Prop) : ∀ (n : Nat) (x1 : Int32) (h : HS) (H : Heap) (locs : List Loc) (ls : Array Slot), lpF (wb_NJ_listNames_99 Z post v0) n (x1, h) → lv_has ls 4 [(0, va_rf (some v0)), (1, .int x1)] → mR D cs (fA h0 s.heap.size) h s.heap H locs → W p l e ({ frames := 5, cells := 0, slots := 0, locals := 169 } : Room) s m args below meth c H locs 0 0 (MQ below (va_Qv post (mB D cs h0 s.heap.size) (fA h0 s.heap.size)) args s 0 0 (fA h0 s.heap.size)) (F0 m 99 ls []) := by
  obtain ⟨hx, hb, hr, hml, hown, hW, hlocks, hnm, hK, hZ⟩ := id C
  have hown : s.vm.findClass "NetJoins" = some m.cls := hown
  have hA : ∀ q, s.heap.size ≤ q → fA h0 s.heap.size q := fun _ h => Or.inr h
  intro n
  induction n with
  | zero => intro x1 h H locs ls hw; exact hw.elim
  | succ n ih =>
    intro x1 h H locs ls hw hl hR
    have hw : wb_NJ_listNames_99 Z post v0 (lpF (wb_NJ_listNames_99 Z post v0) n) (x1, h) := hw
    unfold wb_NJ_listNames_99 at hw
    dsimp only at hw
    refine lv_iload_n hx hb d_NJ_listNames_99 rfl (lv_at hl 1 rfl) ?_
    refine mx_aload_n (r := some v0) hx hb d_NJ_listNames_100 rfl (lv_at hl 0 rfl) ?_
    obtain ⟨t1, hw⟩ := hw
    refine mx_get (ci := 0) (C := "NetJoins") (T := F_NJ) (N := 18) hx hb hW hown hK.1 hR (a := v0) rfl t1 rfl i_NJ 11 2 (by decide) rfl kw_131 (fun _ h9 => h9) d_NJ_listNames_101 ?_
    obtain ⟨a2, ea2, t3, hw⟩ := hw
    refine mx_get (ci := 3) (C := "NetJoins$NetTable") (T := F_Tab) (N := 7) hx hb hW hown hK.1 hR (a := a2) ea2 t3 rfl i_Tab 5 0 (by decide) rfl kw_102 (fun _ h9 => h9) d_NJ_listNames_104 ?_
    refine lv_icmp_gt (tgt := 133) hx hb d_NJ_listNames_107 (by decide) (fun c4 => ?_) (fun c4 => ?_)
    · have hw := hw.1 c4
      refine mx_aload_n (r := some v0) hx hb d_NJ_listNames_133 rfl (lv_at hl 0 rfl) ?_
      obtain ⟨t5, hw⟩ := hw
      refine mx_get (ci := 0) (C := "NetJoins") (T := F_NJ) (N := 18) hx hb hW hown hK.1 hR (a := v0) rfl t5 rfl i_NJ 4 2 (by decide) rfl kw_124 (fun _ h9 => h9) d_NJ_listNames_134 ?_
      obtain ⟨a8, ea8, t9, hw⟩ := hw
      refine W.eq (g2 := F0 m 137 ls [va_rf (some a8)]) (by rw [← ea8] <;> rfl) ?_
      refine mx_calli (va_runV (b := a8) (As := []) (rest := []) ⟨hx, hb, hml, hown, hW⟩ (mt_AL_size l D cs Z _ hw) (mx_cwV hW ok_AL_size kw_192 rfl rfl ⟨Nat.le_of_ble_eq_true rfl, Nat.le_of_ble_eq_true rfl⟩) (mx_preV hK hZ hA hR (ci := 9) rfl t9) rfl rfl hl.1 rfl (lv_room (Nat.le_of_ble_eq_true rfl)) d_NJ_listNames_137 ⟨Nat.le_of_ble_eq_true rfl, Nat.le_of_ble_eq_true rfl⟩) hR hA (fun r6 h7 H locs hw hR => ?_)
      try dsimp only at hw
      refine lv_iconst (v := 1) hx hb d_NJ_listNames_140 (by decide) ?_
      refine lv_isub hx hb d_NJ_listNames_141 ?_
      refine lv_topi (fun y10 ey10 => ?_)
      have hw := hw y10 ey10
      refine lv_istore_n (i := 1) (lv' := [(1, .int y10), (0, va_rf (some v0))]) hx hb d_NJ_listNames_142 rfl hl (by decide) rfl (fun ls hl => ?_)
      obtain ⟨n9, hw⟩ := hw
      exact mn_NJ_listNames_143 C post n9 y10 _ _ _ _ hw (lv_sub hl [1, 0] rfl) hR
    · have hw := hw.2 c4
      refine mx_aload_n (r := some v0) hx hb d_NJ_listNames_110 rfl (lv_at hl 0 rfl) ?_
      obtain ⟨t11, hw⟩ := hw
      refine mx_get (ci := 0) (C := "NetJoins") (T := F_NJ) (N := 18) hx hb hW hown hK.1 hR (a := v0) rfl t11 rfl i_NJ 12 2 (by decide) rfl kw_132 (fun _ h9 => h9) d_NJ_listNames_111 ?_
      refine lv_iload_n hx hb d_NJ_listNames_114 rfl (lv_at hl 1 rfl) ?_
      refine lv_dup2_11 hx hb d_NJ_listNames_115 rfl (mx_rf_cat _) ?_
      obtain ⟨a12, ea12, t13, t13i, hw⟩ := hw
      refine mx_iald hx hb hK.1 hR (a := a12) ea12 t13 t13i d_NJ_listNames_116 ?_
      refine mx_aload_n (r := some v0) hx hb d_NJ_listNames_117 rfl (lv_at hl 0 rfl) ?_
      obtain ⟨t14, hw⟩ := hw
      refine mx_get (ci := 0) (C := "NetJoins") (T := F_NJ) (N := 18) hx hb hW hown hK.1 hR (a := v0) rfl t14 rfl i_NJ 12 2 (by decide) rfl kw_132 (fun _ h9 => h9) d_NJ_listNames_118 ?_
      refine lv_iload_n hx hb d_NJ_listNames_121 rfl (lv_at hl 1 rfl) ?_
      refine lv_iconst (v := 1) hx hb d_NJ_listNames_122 (by decide) ?_
      refine lv_isub hx hb d_NJ_listNames_123 ?_
      obtain ⟨a15, ea15, t16, t16i, hw⟩ := hw
      refine mx_iald hx hb hK.1 hR (a := a15) ea15 t16 t16i d_NJ_listNames_124 ?_
      refine lv_iadd hx hb d_NJ_listNames_125 ?_
      obtain ⟨a17, ea17, t18, t18i, hw⟩ := hw
      refine mx_iast hx hb hK.1 hR (a := a17) ea17 t18 t18i d_NJ_listNames_126 (fun H locs hR => ?_)
      obtain ⟨h19, eh19⟩ : ∃ z, z = sA h a17 x1.toNatClampNeg ((gA h a12 x1.toNatClampNeg) + (gA h a15 (x1 - (1 : Int32)).toNatClampNeg)) := ⟨_, rfl⟩
      rw [← eh19] at hR
      have hw := hw h19 eh19
      obtain ⟨y20, ey20⟩ : ∃ y : Int32, y = x1 + (1 : Int32) := ⟨_, rfl⟩
      have hw := hw y20 ey20
      refine lv_iinc (v := y20) (lv' := [(1, .int y20), (0, va_rf (some v0))]) hx hb d_NJ_listNames_127 hl (k := 1) rfl (by rw [ey20]; rfl) (by decide) rfl (fun ls hl => ?_)
      refine lv_goto (tgt := 99) hx hb d_NJ_listNames_130 (by decide) ?_
      exact ih y20 _ _ _ _ hw (lv_sub hl [1, 0] rfl) hR
set_option maxHeartbeats 4000000 in
set_option maxRecDepth 100000 in
theorem mn_NJ_listNames_85 {D : va_G} {cs : CS} {Z : Nat → Nat} {h0 : HS} {p : Program} {l : Launch} {e : Env} {s : State} {m : MethodId} {args : Array Value} {below : List Frame} {meth : Method} {c : Code} {v0 : Nat} (C : mC D cs Z h0 y_NJ_listNames c_NJ_listNames 4 none p s m args meth c) (post : HS → Prop) (K26 : Int32 × HS → Prop) (K32 : Int32 × Int32 × HS → Prop) (hK26 : ∀ (x1 : Int32) (h : HS) (H : Heap) (locs : List Loc) (ls : Array Slot), K26 (x1, h) → lv_has ls 4 [(0, va_rf (some v0)), (1, .int x1)] → mR D cs (fA h0 s.heap.size) h s.heap H locs → W p l e ({ frames := 5, cells := 0, slots := 0, locals := 169 } : Room) s m args below meth c H locs 0 0 (MQ below (va_Qv post (mB D cs h0 s.heap.size) (fA h0 s.heap.size)) args s 0 0 (fA h0 s.heap.size)) (F0 m 26 ls [])) (hK32 : ∀ (x1 : Int32) (x2 : Int32) (h : HS) (H : Heap) (locs : List Loc) (ls : Array Slot), K32 (x1, x2, h) → lv_has ls 4 [(0, va_rf (some v0)), (1, .int x1), (2, .int x2)] → mR D cs (fA h0 s.heap.size) h s.heap H locs → W p l e ({ frames := 5, cells := 0, slots := 0, locals := 169 } : Room) s m args below meth c H locs 0 0 (MQ below (va_Qv post (mB D cs h0 s.heap.size) (fA h0 s.heap.size)) args s 0 0 (fA h0 s.heap.size)) (F0 m 32 ls [])) : ∀ (x1 : Int32) (x2 : Int32) (h : HS) (H : Heap) (locs : List Loc) (ls : Array Slot), wj_NJ_listNames_85 Z post K26 K32 v0 x1 x2 h → lv_has ls 4 [(0, va_rf (some v0)), (1, .int x1), (2, .int x2)] → mR D cs (fA h0 s.heap.size) h s.heap H locs → W p l e ({ frames := 5, cells := 0, slots := 0, locals := 169 } : Room) s m args below meth c H locs 0 0 (MQ below (va_Qv post (mB D cs h0 s.heap.size) (fA h0 s.heap.size)) args s 0 0 (fA h0 s.heap.size)) (F0 m 85 ls []) := by
  obtain ⟨hx, hb, hr, hml, hown, hW, hlocks, hnm, hK, hZ⟩ := id C
  have hown : s.vm.findClass "NetJoins" = some m.cls := hown
  have hA : ∀ q, s.heap.size ≤ q → fA h0 s.heap.size q := fun _ h => Or.inr h
  intro x1 x2 h H locs ls hw hl hR
  unfold wj_NJ_listNames_85 at hw
  obtain ⟨y1, ey1⟩ : ∃ y : Int32, y = x2 + (1 : Int32) := ⟨_, rfl⟩
  have hw := hw y1 ey1
  refine lv_iinc (v := y1) (lv' := [(2, .int y1), (0, va_rf (some v0)), (1, .int x1)]) hx hb d_NJ_listNames_85 hl (k := 2) rfl (by rw [ey1]; rfl) (by decide) rfl (fun ls hl => ?_)
  refine lv_goto (tgt := 32) hx hb d_NJ_listNames_88 (by decide) ?_
  exact hK32 x1 y1 _ _ _ _ hw (lv_sub hl [1, 2, 0] rfl) hR
set_option maxHeartbeats 4000000 in
set_option maxRecDepth 100000 in
theorem mn_NJ_listNames_32 {D : va_G} {cs : CS} {Z : Nat → Nat} {h0 : HS} {p : Program} {l : Launch} {e : Env} {s : State} {m : MethodId} {args : Array Value} {below : List Frame} {meth : Method} {c : Code} {v0 : Nat} (C : mC D cs Z h0 y_NJ_listNames c_NJ_listNames 4 none p s m args meth c) (post : HS → Prop) (K26 : Int32 × HS → Prop) (hK26 : ∀ (x1 : Int32) (h : HS) (H : Heap) (locs : List Loc) (ls : Array Slot), K26 (x1, h) → lv_has ls 4 [(0, va_rf (some v0)), (1, .int x1)] → mR D cs (fA h0 s.heap.size) h s.heap H locs → W p l e ({ frames := 5, cells := 0, slots := 0, locals := 169 } : Room) s m args below meth c H locs 0 0 (MQ below (va_Qv post (mB D cs h0 s.heap.size) (fA h0 s.heap.size)) args s 0 0 (fA h0 s.heap.size)) (F0 m 26 ls [])) : ∀ (n : Nat) (x1 : Int32) (x2 : Int32) (h : HS) (H : Heap) (locs : List Loc) (ls : Array Slot), lpF (wb_NJ_listNames_32 Z post K26 v0) n (x1, x2, h) → lv_has ls 4 [(0, va_rf (some v0)), (1, .int x1), (2, .int x2)] → mR D cs (fA h0 s.heap.size) h s.heap H locs → W p l e ({ frames := 5, cells := 0, slots := 0, locals := 169 } : Room) s m args below meth c H locs 0 0 (MQ below (va_Qv post (mB D cs h0 s.heap.size) (fA h0 s.heap.size)) args s 0 0 (fA h0 s.heap.size)) (F0 m 32 ls []) := by
  obtain ⟨hx, hb, hr, hml, hown, hW, hlocks, hnm, hK, hZ⟩ := id C
  have hown : s.vm.findClass "NetJoins" = some m.cls := hown
  have hA : ∀ q, s.heap.size ≤ q → fA h0 s.heap.size q := fun _ h => Or.inr h
  intro n
  induction n with
  | zero => intro x1 x2 h H locs ls hw; exact hw.elim
  | succ n ih =>
    intro x1 x2 h H locs ls hw hl hR
    have hw : wb_NJ_listNames_32 Z post K26 v0 (lpF (wb_NJ_listNames_32 Z post K26 v0) n) (x1, x2, h) := hw
    unfold wb_NJ_listNames_32 at hw
    dsimp only at hw
    refine lv_iload_n hx hb d_NJ_listNames_32 rfl (lv_at hl 2 rfl) ?_
    refine mx_aload_n (r := some v0) hx hb d_NJ_listNames_33 rfl (lv_at hl 0 rfl) ?_
    obtain ⟨t1, hw⟩ := hw
    refine mx_get (ci := 0) (C := "NetJoins") (T := F_NJ) (N := 18) hx hb hW hown hK.1 hR (a := v0) rfl t1 rfl i_NJ 0 2 (by decide) rfl kw_120 (fun _ h9 => h9) d_NJ_listNames_34 ?_
    obtain ⟨a4, ea4, t5, hw⟩ := hw
    refine W.eq (g2 := F0 m 37 ls [va_rf (some a4), .int x2]) (by rw [← ea4] <;> rfl) ?_
    refine mx_calli (va_runV (b := a4) (As := []) (rest := [.int x2]) ⟨hx, hb, hml, hown, hW⟩ (mt_AL_size l D cs Z _ hw) (mx_cwV hW ok_AL_size kw_192 rfl rfl ⟨Nat.le_of_ble_eq_true rfl, Nat.le_of_ble_eq_true rfl⟩) (mx_preV hK hZ hA hR (ci := 9) rfl t5) rfl rfl hl.1 rfl (lv_room (Nat.le_of_ble_eq_true rfl)) d_NJ_listNames_37 ⟨Nat.le_of_ble_eq_true rfl, Nat.le_of_ble_eq_true rfl⟩) hR hA (fun r2 h3 H locs hw hR => ?_)
    try dsimp only at hw
    refine lv_icmp_ge (tgt := 91) hx hb d_NJ_listNames_40 (by decide) (fun c6 => ?_) (fun c6 => ?_)
    · have hw := hw.1 c6
      obtain ⟨y7, ey7⟩ : ∃ y : Int32, y = x1 + (-1 : Int32) := ⟨_, rfl⟩
      have hw := hw y7 ey7
      refine lv_iinc (v := y7) (lv' := [(1, .int y7), (0, va_rf (some v0)), (2, .int x2)]) hx hb d_NJ_listNames_91 hl (k := 1) rfl (by rw [ey7]; rfl) (by decide) rfl (fun ls hl => ?_)
      refine lv_goto (tgt := 26) hx hb d_NJ_listNames_94 (by decide) ?_
      exact hK26 y7 _ _ _ _ hw (lv_sub hl [1, 0] rfl) hR
    · have hw := hw.2 c6
      refine mx_aload_n (r := some v0) hx hb d_NJ_listNames_43 rfl (lv_at hl 0 rfl) ?_
      refine mx_aload_n (r := some v0) hx hb d_NJ_listNames_44 rfl (lv_at hl 0 rfl) ?_
      obtain ⟨t8, hw⟩ := hw
      refine mx_get (ci := 0) (C := "NetJoins") (T := F_NJ) (N := 18) hx hb hW hown hK.1 hR (a := v0) rfl t8 rfl i_NJ 4 2 (by decide) rfl kw_124 (fun _ h9 => h9) d_NJ_listNames_45 ?_
      refine lv_iload_n hx hb d_NJ_listNames_48 rfl (lv_at hl 1 rfl) ?_
      obtain ⟨a11, ea11, t12, hw⟩ := hw
      refine W.eq (g2 := F0 m 49 ls [.int x1, va_rf (some a11), va_rf (some v0)]) (by rw [← ea11] <;> rfl) ?_
      refine mx_callr (va_runV (b := a11) (As := [.int x1]) (rest := [va_rf (some v0)]) ⟨hx, hb, hml, hown, hW⟩ (mt_AL_get l D cs Z _ hw) (mx_cwV hW ok_AL_get kw_196 rfl rfl ⟨Nat.le_of_ble_eq_true rfl, Nat.le_of_ble_eq_true rfl⟩) (mx_preV hK hZ hA hR (ci := 9) rfl t12) rfl rfl hl.1 rfl (lv_room (Nat.le_of_ble_eq_true rfl)) d_NJ_listNames_49 ⟨Nat.le_of_ble_eq_true rfl, Nat.le_of_ble_eq_true rfl⟩) hR hA (fun r9 h10 H locs hw hR => ?_)
      try dsimp only at hw
      obtain ⟨t13, hw⟩ := hw
      refine mx_cast (ci := 6) (C := "NetJoins$Spot") (T := F_Spot) (N := 6) hx hb hW hown hK.1 hR rfl kw_210 t13 d_NJ_listNames_52 ?_
      refine mx_aload_n (r := some v0) hx hb d_NJ_listNames_55 rfl (lv_at hl 0 rfl) ?_
      obtain ⟨t14, hw⟩ := hw
      refine mx_get (ci := 0) (C := "NetJoins") (T := F_NJ) (N := 18) hx hb hW hown hK.1 hR (a := v0) rfl t14 rfl i_NJ 0 2 (by decide) rfl kw_120 (fun _ h9 => h9) d_NJ_listNames_56 ?_
      refine lv_iload_n hx hb d_NJ_listNames_59 rfl (lv_at hl 2 rfl) ?_
      obtain ⟨a17, ea17, t18, hw⟩ := hw
      refine W.eq (g2 := F0 m 60 ls [.int x2, va_rf (some a17), va_rf r9, va_rf (some v0)]) (by rw [← ea17] <;> rfl) ?_
      refine mx_callr (va_runV (b := a17) (As := [.int x2]) (rest := [va_rf r9, va_rf (some v0)]) ⟨hx, hb, hml, hown, hW⟩ (mt_AL_get l D cs Z _ hw) (mx_cwV hW ok_AL_get kw_196 rfl rfl ⟨Nat.le_of_ble_eq_true rfl, Nat.le_of_ble_eq_true rfl⟩) (mx_preV hK hZ hA hR (ci := 9) rfl t18) rfl rfl hl.1 rfl (lv_room (by simp [mx_rf_cat, cat_i, cat_l])) d_NJ_listNames_60 ⟨Nat.le_of_ble_eq_true rfl, Nat.le_of_ble_eq_true rfl⟩) hR hA (fun r15 h16 H locs hw hR => ?_)
      try dsimp only at hw
      obtain ⟨t19, hw⟩ := hw
      refine mx_cast (ci := 5) (C := "NetJoins$Sheet") (T := F_Sheet) (N := 5) hx hb hW hown hK.1 hR rfl kw_211 t19 d_NJ_listNames_63 ?_
      obtain ⟨t22, hw⟩ := hw
      refine mx_calli (va_runV (b := v0) (As := [va_rf r9, va_rf r15]) (rest := []) ⟨hx, hb, hml, hown, hW⟩ (mt_NJ_netOfLabel l D cs Z _ hw) (mx_cwV hW ok_NJ_netOfLabel kw_212 rfl rfl ⟨Nat.le_of_ble_eq_true rfl, Nat.le_of_ble_eq_true rfl⟩) (mx_preV hK hZ hA hR (ci := 0) rfl t22) rfl rfl hl.1 rfl (lv_room (Nat.le_of_ble_eq_true rfl)) d_NJ_listNames_66 ⟨Nat.le_of_ble_eq_true rfl, Nat.le_of_ble_eq_true rfl⟩) hR hA (fun r20 h21 H locs hw hR => ?_)
      try dsimp only at hw
      refine lv_istore_n (i := 3) (lv' := [(3, .int r20), (0, va_rf (some v0)), (1, .int x1), (2, .int x2)]) hx hb d_NJ_listNames_69 rfl hl (by decide) rfl (fun ls hl => ?_)
      refine lv_iload_n hx hb d_NJ_listNames_70 rfl (lv_at hl 0 rfl) ?_
      refine lv_iconst (v := (-1)) hx hb d_NJ_listNames_71 (by decide) ?_
      refine lv_icmp_eq (tgt := 85) hx hb d_NJ_listNames_72 (by decide) (fun c23 => ?_) (fun c23 => ?_)
      · have hw := hw.1 c23
        exact mn_NJ_listNames_85 C post K26 (lpF (wb_NJ_listNames_32 Z post K26 v0) n) hK26 ih x1 x2 _ _ _ _ hw (lv_sub hl [1, 2, 3] rfl) hR
      · have hw := hw.2 c23
        refine mx_aload_n (r := some v0) hx hb d_NJ_listNames_75 rfl (lv_at hl 1 rfl) ?_
        obtain ⟨t24, hw⟩ := hw
        refine mx_get (ci := 0) (C := "NetJoins") (T := F_NJ) (N := 18) hx hb hW hown hK.1 hR (a := v0) rfl t24 rfl i_NJ 12 2 (by decide) rfl kw_132 (fun _ h9 => h9) d_NJ_listNames_76 ?_
        refine lv_iload_n hx hb d_NJ_listNames_79 rfl (lv_at hl 0 rfl) ?_
        refine lv_dup2_11 hx hb d_NJ_listNames_80 rfl (mx_rf_cat _) ?_
        obtain ⟨a25, ea25, t26, t26i, hw⟩ := hw
        refine mx_iald hx hb hK.1 hR (a := a25) ea25 t26 t26i d_NJ_listNames_81 ?_
        refine lv_iconst (v := 1) hx hb d_NJ_listNames_82 (by decide) ?_
        refine lv_iadd hx hb d_NJ_listNames_83 ?_
        obtain ⟨a27, ea27, t28, t28i, hw⟩ := hw
        refine mx_iast hx hb hK.1 hR (a := a27) ea27 t28 t28i d_NJ_listNames_84 (fun H locs hR => ?_)
        obtain ⟨h29, eh29⟩ : ∃ z, z = sA h21 a27 r20.toNatClampNeg ((gA h21 a25 r20.toNatClampNeg) + (1 : Int32)) := ⟨_, rfl⟩
        rw [← eh29] at hR
        have hw := hw h29 eh29
        exact mn_NJ_listNames_85 C post K26 (lpF (wb_NJ_listNames_32 Z post K26 v0) n) hK26 ih x1 x2 _ _ _ _ hw (lv_sub hl [1, 2, 3] rfl) hR
set_option maxHeartbeats 4000000 in
set_option maxRecDepth 100000 in
theorem mn_NJ_listNames_26 {D : va_G} {cs : CS} {Z : Nat → Nat} {h0 : HS} {p : Program} {l : Launch} {e : Env} {s : State} {m : MethodId} {args : Array Value} {below : List Frame} {meth : Method} {c : Code} {v0 : Nat} (C : mC D cs Z h0 y_NJ_listNames c_NJ_listNames 4 none p s m args meth c) (post : HS → Prop) : ∀ (n : Nat) (x1 : Int32) (h : HS) (H : Heap) (locs : List Loc) (ls : Array Slot), lpF (wb_NJ_listNames_26 Z post v0) n (x1, h) → lv_has ls 4 [(0, va_rf (some v0)), (1, .int x1)] → mR D cs (fA h0 s.heap.size) h s.heap H locs → W p l e ({ frames := 5, cells := 0, slots := 0, locals := 169 } : Room) s m args below meth c H locs 0 0 (MQ below (va_Qv post (mB D cs h0 s.heap.size) (fA h0 s.heap.size)) args s 0 0 (fA h0 s.heap.size)) (F0 m 26 ls []) := by
  obtain ⟨hx, hb, hr, hml, hown, hW, hlocks, hnm, hK, hZ⟩ := id C
  have hown : s.vm.findClass "NetJoins" = some m.cls := hown
  have hA : ∀ q, s.heap.size ≤ q → fA h0 s.heap.size q := fun _ h => Or.inr h
  intro n
  induction n with
  | zero => intro x1 h H locs ls hw; exact hw.elim
  | succ n ih =>
    intro x1 h H locs ls hw hl hR
    have hw : wb_NJ_listNames_26 Z post v0 (lpF (wb_NJ_listNames_26 Z post v0) n) (x1, h) := hw
    unfold wb_NJ_listNames_26 at hw
    dsimp only at hw
    refine lv_iload_n hx hb d_NJ_listNames_26 rfl (lv_at hl 1 rfl) ?_
    refine lv_if_lt (tgt := 97) hx hb d_NJ_listNames_27 (by decide) (fun c1 => ?_) (fun c1 => ?_)
    · have hw := hw.1 c1
      refine lv_iconst (v := 1) hx hb d_NJ_listNames_97 (by decide) ?_
      refine lv_istore_n (i := 1) (lv' := [(1, .int (1 : Int32)), (0, va_rf (some v0))]) hx hb d_NJ_listNames_98 rfl hl (by decide) rfl (fun ls hl => ?_)
      obtain ⟨n9, hw⟩ := hw
      exact mn_NJ_listNames_99 C post n9 (1 : Int32) _ _ _ _ hw (lv_sub hl [1, 0] rfl) hR
    · have hw := hw.2 c1
      refine lv_iconst (v := 0) hx hb d_NJ_listNames_30 (by decide) ?_
      refine lv_istore_n (i := 2) (lv' := [(2, .int (0 : Int32)), (0, va_rf (some v0)), (1, .int x1)]) hx hb d_NJ_listNames_31 rfl hl (by decide) rfl (fun ls hl => ?_)
      obtain ⟨n9, hw⟩ := hw
      exact mn_NJ_listNames_32 C post (lpF (wb_NJ_listNames_26 Z post v0) n) ih n9 x1 (0 : Int32) _ _ _ _ hw (lv_sub hl [1, 2, 0] rfl) hR
set_option maxHeartbeats 4000000 in
set_option maxRecDepth 100000 in
theorem mt_NJ_listNames (l : Launch) (D : va_G) (cs : CS) (Z : Nat → Nat) (sz : Nat) {post : HS → Prop} {h : HS} {v0 : Nat}  (hw : wp_NJ_listNames Z post h v0 ) : Met l y_NJ_listNames (Cond.code y_NJ_listNames c_NJ_listNames 4 none :: WA) ({ frames := 5, cells := 0, slots := 0, locals := 169 } : Room) (mPc D cs Z h sz [va_rf (some v0)]) (va_Qv post (mB D cs h sz) (fA h sz)) 0 0 (fA h sz) := by
  refine mx_met (fun sz => va_Qv post (mB D cs h sz) (fA h sz)) (by decide) (by simp [lg_sl, mx_rf_cat, cat_i, cat_l]) ?_
  intro p e s m args below meth c C hR ls hl
  have hl : lv_has ls 4 [(0, va_rf (some v0))] := hl
  obtain ⟨hx, hb, hr, hml, hown, hW, hlocks, hnm, hK, hZ⟩ := id C
  have hown : s.vm.findClass "NetJoins" = some m.cls := hown
  have hA : ∀ q, s.heap.size ≤ q → fA h s.heap.size q := fun _ h => Or.inr h
  unfold wp_NJ_listNames at hw
  refine mx_aload_n (r := some v0) hx hb d_NJ_listNames_0 rfl (lv_at hl 0 rfl) ?_
  obtain ⟨t1, hw⟩ := hw
  refine mx_get (ci := 0) (C := "NetJoins") (T := F_NJ) (N := 18) hx hb hW hown hK.1 hR (a := v0) rfl t1 rfl i_NJ 14 0 (by decide) rfl kw_134 (fun _ h9 => h9) d_NJ_listNames_1 ?_
  refine lv_if_eq (tgt := 8) hx hb d_NJ_listNames_4 (by decide) (fun c2 => ?_) (fun c2 => ?_)
  · have hw := hw.1 c2
    refine mx_aload_n (r := some v0) hx hb d_NJ_listNames_8 rfl (lv_at hl 0 rfl) ?_
    obtain ⟨t3, hw⟩ := hw
    refine mx_get (ci := 0) (C := "NetJoins") (T := F_NJ) (N := 18) hx hb hW hown hK.1 hR (a := v0) rfl t3 rfl i_NJ 12 2 (by decide) rfl kw_132 (fun _ h9 => h9) d_NJ_listNames_9 ?_
    refine lv_iconst (v := 0) hx hb d_NJ_listNames_12 (by decide) ?_
    refine mx_callv (va_runS (As := [va_rf (gR h 12 v0), .int (0 : Int32)]) (rest := []) ⟨hx, hb, hml, hown, hW⟩ (mt_ARR_fill l D cs Z _ hw) (mx_cwS hW ok_ARR_fill kw_191 rfl rfl ⟨Nat.le_of_ble_eq_true rfl, Nat.le_of_ble_eq_true rfl⟩) (mx_preS hK hZ hA hR) rfl rfl hl.1 rfl (lv_room (Nat.le_of_ble_eq_true rfl)) d_NJ_listNames_13 ⟨Nat.le_of_ble_eq_true rfl, Nat.le_of_ble_eq_true rfl⟩) hR hA (fun h5 H locs hw hR => ?_)
    try dsimp only at hw
    refine mx_aload_n (r := some v0) hx hb d_NJ_listNames_16 rfl (lv_at hl 0 rfl) ?_
    obtain ⟨t6, hw⟩ := hw
    refine mx_get (ci := 0) (C := "NetJoins") (T := F_NJ) (N := 18) hx hb hW hown hK.1 hR (a := v0) rfl t6 rfl i_NJ 4 2 (by decide) rfl kw_124 (fun _ h9 => h9) d_NJ_listNames_17 ?_
    obtain ⟨a9, ea9, t10, hw⟩ := hw
    refine W.eq (g2 := F0 m 20 ls [va_rf (some a9)]) (by rw [← ea9] <;> rfl) ?_
    refine mx_calli (va_runV (b := a9) (As := []) (rest := []) ⟨hx, hb, hml, hown, hW⟩ (mt_AL_size l D cs Z _ hw) (mx_cwV hW ok_AL_size kw_192 rfl rfl ⟨Nat.le_of_ble_eq_true rfl, Nat.le_of_ble_eq_true rfl⟩) (mx_preV hK hZ hA hR (ci := 9) rfl t10) rfl rfl hl.1 rfl (lv_room (Nat.le_of_ble_eq_true rfl)) d_NJ_listNames_20 ⟨Nat.le_of_ble_eq_true rfl, Nat.le_of_ble_eq_true rfl⟩) hR hA (fun r7 h8 H locs hw hR => ?_)
    try dsimp only at hw
    refine lv_iconst (v := 1) hx hb d_NJ_listNames_23 (by decide) ?_
    refine lv_isub hx hb d_NJ_listNames_24 ?_
    refine lv_topi (fun y11 ey11 => ?_)
    have hw := hw y11 ey11
    refine lv_istore_n (i := 1) (lv' := [(1, .int y11), (0, va_rf (some v0))]) hx hb d_NJ_listNames_25 rfl hl (by decide) rfl (fun ls hl => ?_)
    obtain ⟨n9, hw⟩ := hw
    exact mn_NJ_listNames_26 C post n9 y11 _ _ _ _ hw (lv_sub hl [1, 0] rfl) hR
  · have hw := hw.2 c2
    exact mx_vret hx hb hr hlocks hR hw d_NJ_listNames_7
set_option maxHeartbeats 4000000 in
set_option maxRecDepth 100000 in
theorem mn_NJ_bestName_53 {D : va_G} {cs : CS} {Z : Nat → Nat} {h0 : HS} {p : Program} {l : Launch} {e : Env} {s : State} {m : MethodId} {args : Array Value} {below : List Frame} {meth : Method} {c : Code} {v0 : Nat} (C : mC D cs Z h0 y_NJ_bestName c_NJ_bestName 4 (some .int) p s m args meth c) (post : Int32 → HS → Prop) (K9 : Int32 × Int32 × Int32 × HS → Prop) (hK9 : ∀ (x1 : Int32) (x2 : Int32) (x3 : Int32) (h : HS) (H : Heap) (locs : List Loc) (ls : Array Slot), K9 (x1, x2, x3, h) → lv_has ls 4 [(0, va_rf (some v0)), (1, .int x1), (2, .int x2), (3, .int x3)] → mR D cs (fA h0 s.heap.size) h s.heap H locs → W p l e ({ frames := 2, cells := 0, slots := 0, locals := 100 } : Room) s m args below meth c H locs 0 0 (MQ below (va_Qi post (mB D cs h0 s.heap.size) (fA h0 s.heap.size)) args s 0 0 (fA h0 s.heap.size)) (F0 m 9 ls [])) : ∀ (x1 : Int32) (x2 : Int32) (x3 : Int32) (h : HS) (H : Heap) (locs : List Loc) (ls : Array Slot), wj_NJ_bestName_53 Z post K9 v0 x1 x2 x3 h → lv_has ls 4 [(0, va_rf (some v0)), (1, .int x1), (2, .int x2), (3, .int x3)] → mR D cs (fA h0 s.heap.size) h s.heap H locs → W p l e ({ frames := 2, cells := 0, slots := 0, locals := 100 } : Room) s m args below meth c H locs 0 0 (MQ below (va_Qi post (mB D cs h0 s.heap.size) (fA h0 s.heap.size)) args s 0 0 (fA h0 s.heap.size)) (F0 m 53 ls []) := by
  obtain ⟨hx, hb, hr, hml, hown, hW, hlocks, hnm, hK, hZ⟩ := id C
  have hown : s.vm.findClass "NetJoins" = some m.cls := hown
  have hA : ∀ q, s.heap.size ≤ q → fA h0 s.heap.size q := fun _ h => Or.inr h
  intro x1 x2 x3 h H locs ls hw hl hR
  unfold wj_NJ_bestName_53 at hw
  obtain ⟨y1, ey1⟩ : ∃ y : Int32, y = x3 + (1 : Int32) := ⟨_, rfl⟩
  have hw := hw y1 ey1
  refine lv_iinc (v := y1) (lv' := [(3, .int y1), (0, va_rf (some v0)), (1, .int x1), (2, .int x2)]) hx hb d_NJ_bestName_53 hl (k := 3) rfl (by rw [ey1]; rfl) (by decide) rfl (fun ls hl => ?_)
  refine lv_goto (tgt := 9) hx hb d_NJ_bestName_56 (by decide) ?_
  exact hK9 x1 x2 y1 _ _ _ _ hw (lv_sub hl [1, 2, 3, 0] rfl) hR
set_option maxHeartbeats 4000000 in
set_option maxRecDepth 100000 in
theorem mn_NJ_bestName_46 {D : va_G} {cs : CS} {Z : Nat → Nat} {h0 : HS} {p : Program} {l : Launch} {e : Env} {s : State} {m : MethodId} {args : Array Value} {below : List Frame} {meth : Method} {c : Code} {v0 : Nat} (C : mC D cs Z h0 y_NJ_bestName c_NJ_bestName 4 (some .int) p s m args meth c) (post : Int32 → HS → Prop) (K9 : Int32 × Int32 × Int32 × HS → Prop) (hK9 : ∀ (x1 : Int32) (x2 : Int32) (x3 : Int32) (h : HS) (H : Heap) (locs : List Loc) (ls : Array Slot), K9 (x1, x2, x3, h) → lv_has ls 4 [(0, va_rf (some v0)), (1, .int x1), (2, .int x2), (3, .int x3)] → mR D cs (fA h0 s.heap.size) h s.heap H locs → W p l e ({ frames := 2, cells := 0, slots := 0, locals := 100 } : Room) s m args below meth c H locs 0 0 (MQ below (va_Qi post (mB D cs h0 s.heap.size) (fA h0 s.heap.size)) args s 0 0 (fA h0 s.heap.size)) (F0 m 9 ls [])) : ∀ (x1 : Int32) (x3 : Int32) (h : HS) (H : Heap) (locs : List Loc) (ls : Array Slot), wj_NJ_bestName_46 Z post K9 v0 x1 x3 h → lv_has ls 4 [(0, va_rf (some v0)), (1, .int x1), (3, .int x3)] → mR D cs (fA h0 s.heap.size) h s.heap H locs → W p l e ({ frames := 2, cells := 0, slots := 0, locals := 100 } : Room) s m args below meth c H locs 0 0 (MQ below (va_Qi post (mB D cs h0 s.heap.size) (fA h0 s.heap.size)) args s 0 0 (fA h0 s.heap.size)) (F0 m 46 ls []) := by
  obtain ⟨hx, hb, hr, hml, hown, hW, hlocks, hnm, hK, hZ⟩ := id C
  have hown : s.vm.findClass "NetJoins" = some m.cls := hown
  have hA : ∀ q, s.heap.size ≤ q → fA h0 s.heap.size q := fun _ h => Or.inr h
  intro x1 x3 h H locs ls hw hl hR
  unfold wj_NJ_bestName_46 at hw
  refine mx_aload_n (r := some v0) hx hb d_NJ_bestName_46 rfl (lv_at hl 0 rfl) ?_
  obtain ⟨t1, hw⟩ := hw
  refine mx_get (ci := 0) (C := "NetJoins") (T := F_NJ) (N := 18) hx hb hW hown hK.1 hR (a := v0) rfl t1 rfl i_NJ 13 2 (by decide) rfl kw_133 (fun _ h9 => h9) d_NJ_bestName_47 ?_
  refine lv_iload_n hx hb d_NJ_bestName_50 rfl (lv_at hl 2 rfl) ?_
  obtain ⟨a2, ea2, t3, t3i, hw⟩ := hw
  refine mx_iald hx hb hK.1 hR (a := a2) ea2 t3 t3i d_NJ_bestName_51 ?_
  refine lv_topi (fun y4 ey4 => ?_)
  have hw := hw y4 ey4
  refine lv_istore_n (i := 2) (lv' := [(2, .int y4), (0, va_rf (some v0)), (1, .int x1), (3, .int x3)]) hx hb d_NJ_bestName_52 rfl hl (by decide) rfl (fun ls hl => ?_)
  exact mn_NJ_bestName_53 C post K9 hK9 x1 y4 x3 _ _ _ _ hw (lv_sub hl [1, 2, 0, 3] rfl) hR
set_option maxHeartbeats 4000000 in
set_option maxRecDepth 100000 in
theorem mn_NJ_bestName_9 {D : va_G} {cs : CS} {Z : Nat → Nat} {h0 : HS} {p : Program} {l : Launch} {e : Env} {s : State} {m : MethodId} {args : Array Value} {below : List Frame} {meth : Method} {c : Code} {v0 : Nat} (C : mC D cs Z h0 y_NJ_bestName c_NJ_bestName 4 (some .int) p s m args meth c) (post : Int32 → HS → Prop) : ∀ (n : Nat) (x1 : Int32) (x2 : Int32) (x3 : Int32) (h : HS) (H : Heap) (locs : List Loc) (ls : Array Slot), lpF (wb_NJ_bestName_9 Z post v0) n (x1, x2, x3, h) → lv_has ls 4 [(0, va_rf (some v0)), (1, .int x1), (2, .int x2), (3, .int x3)] → mR D cs (fA h0 s.heap.size) h s.heap H locs → W p l e ({ frames := 2, cells := 0, slots := 0, locals := 100 } : Room) s m args below meth c H locs 0 0 (MQ below (va_Qi post (mB D cs h0 s.heap.size) (fA h0 s.heap.size)) args s 0 0 (fA h0 s.heap.size)) (F0 m 9 ls []) := by
  obtain ⟨hx, hb, hr, hml, hown, hW, hlocks, hnm, hK, hZ⟩ := id C
  have hown : s.vm.findClass "NetJoins" = some m.cls := hown
  have hA : ∀ q, s.heap.size ≤ q → fA h0 s.heap.size q := fun _ h => Or.inr h
  intro n
  induction n with
  | zero => intro x1 x2 x3 h H locs ls hw; exact hw.elim
  | succ n ih =>
    intro x1 x2 x3 h H locs ls hw hl hR
    have hw : wb_NJ_bestName_9 Z post v0 (lpF (wb_NJ_bestName_9 Z post v0) n) (x1, x2, x3, h) := hw
    unfold wb_NJ_bestName_9 at hw
    dsimp only at hw
    refine lv_iload_n hx hb d_NJ_bestName_9 rfl (lv_at hl 3 rfl) ?_
    refine mx_aload_n (r := some v0) hx hb d_NJ_bestName_10 rfl (lv_at hl 0 rfl) ?_
    obtain ⟨t1, hw⟩ := hw
    refine mx_get (ci := 0) (C := "NetJoins") (T := F_NJ) (N := 18) hx hb hW hown hK.1 hR (a := v0) rfl t1 rfl i_NJ 12 2 (by decide) rfl kw_132 (fun _ h9 => h9) d_NJ_bestName_11 ?_
    refine lv_iload_n hx hb d_NJ_bestName_14 rfl (lv_at hl 1 rfl) ?_
    refine lv_iconst (v := 1) hx hb d_NJ_bestName_15 (by decide) ?_
    refine lv_iadd hx hb d_NJ_bestName_16 ?_
    obtain ⟨a2, ea2, t3, t3i, hw⟩ := hw
    refine mx_iald hx hb hK.1 hR (a := a2) ea2 t3 t3i d_NJ_bestName_17 ?_
    refine lv_icmp_ge (tgt := 59) hx hb d_NJ_bestName_18 (by decide) (fun c4 => ?_) (fun c4 => ?_)
    · have hw := hw.1 c4
      refine lv_iload_n hx hb d_NJ_bestName_59 rfl (lv_at hl 2 rfl) ?_
      exact mx_iret hx hb hr hlocks hR hw d_NJ_bestName_60
    · have hw := hw.2 c4
      refine lv_iload_n hx hb d_NJ_bestName_21 rfl (lv_at hl 2 rfl) ?_
      refine lv_iconst (v := (-1)) hx hb d_NJ_bestName_22 (by decide) ?_
      refine lv_icmp_eq (tgt := 46) hx hb d_NJ_bestName_23 (by decide) (fun c5 => ?_) (fun c5 => ?_)
      · have hw := hw.1 c5
        exact mn_NJ_bestName_46 C post (lpF (wb_NJ_bestName_9 Z post v0) n) ih x1 x3 _ _ _ _ hw (lv_sub hl [0, 1, 3] rfl) hR
      · have hw := hw.2 c5
        refine mx_aload_n (r := some v0) hx hb d_NJ_bestName_26 rfl (lv_at hl 0 rfl) ?_
        obtain ⟨t6, hw⟩ := hw
        refine mx_get (ci := 0) (C := "NetJoins") (T := F_NJ) (N := 18) hx hb hW hown hK.1 hR (a := v0) rfl t6 rfl i_NJ 8 2 (by decide) rfl kw_128 (fun _ h9 => h9) d_NJ_bestName_27 ?_
        refine mx_aload_n (r := some v0) hx hb d_NJ_bestName_30 rfl (lv_at hl 0 rfl) ?_
        obtain ⟨t7, hw⟩ := hw
        refine mx_get (ci := 0) (C := "NetJoins") (T := F_NJ) (N := 18) hx hb hW hown hK.1 hR (a := v0) rfl t7 rfl i_NJ 13 2 (by decide) rfl kw_133 (fun _ h9 => h9) d_NJ_bestName_31 ?_
        refine lv_iload_n hx hb d_NJ_bestName_34 rfl (lv_at hl 3 rfl) ?_
        obtain ⟨a8, ea8, t9, t9i, hw⟩ := hw
        refine mx_iald hx hb hK.1 hR (a := a8) ea8 t9 t9i d_NJ_bestName_35 ?_
        obtain ⟨a10, ea10, t11, t11i, hw⟩ := hw
        refine mx_iald hx hb hK.1 hR (a := a10) ea10 t11 t11i d_NJ_bestName_36 ?_
        refine mx_aload_n (r := some v0) hx hb d_NJ_bestName_37 rfl (lv_at hl 0 rfl) ?_
        obtain ⟨t12, hw⟩ := hw
        refine mx_get (ci := 0) (C := "NetJoins") (T := F_NJ) (N := 18) hx hb hW hown hK.1 hR (a := v0) rfl t12 rfl i_NJ 8 2 (by decide) rfl kw_128 (fun _ h9 => h9) d_NJ_bestName_38 ?_
        refine lv_iload_n hx hb d_NJ_bestName_41 rfl (lv_at hl 2 rfl) ?_
        obtain ⟨a13, ea13, t14, t14i, hw⟩ := hw
        refine mx_iald hx hb hK.1 hR (a := a13) ea13 t14 t14i d_NJ_bestName_42 ?_
        refine lv_icmp_le (tgt := 53) hx hb d_NJ_bestName_43 (by decide) (fun c15 => ?_) (fun c15 => ?_)
        · have hw := hw.1 c15
          exact mn_NJ_bestName_53 C post (lpF (wb_NJ_bestName_9 Z post v0) n) ih x1 x2 x3 _ _ _ _ hw (lv_sub hl [0, 1, 2, 3] rfl) hR
        · have hw := hw.2 c15
          exact mn_NJ_bestName_46 C post (lpF (wb_NJ_bestName_9 Z post v0) n) ih x1 x3 _ _ _ _ hw (lv_sub hl [0, 1, 3] rfl) hR
set_option maxHeartbeats 4000000 in
set_option maxRecDepth 100000 in
theorem mt_NJ_bestName (l : Launch) (D : va_G) (cs : CS) (Z : Nat → Nat) (sz : Nat) {post : Int32 → HS → Prop} {h : HS} {v0 : Nat} {x1 : Int32} (hw : wp_NJ_bestName Z post h v0 x1) : Met l y_NJ_bestName (Cond.code y_NJ_bestName c_NJ_bestName 4 (some .int) :: WA) ({ frames := 2, cells := 0, slots := 0, locals := 100 } : Room) (mPc D cs Z h sz [va_rf (some v0), .int x1]) (va_Qi post (mB D cs h sz) (fA h sz)) 0 0 (fA h sz) := by
  refine mx_met (fun sz => va_Qi post (mB D cs h sz) (fA h sz)) (by decide) (by simp [lg_sl, mx_rf_cat, cat_i, cat_l]) ?_
  intro p e s m args below meth c C hR ls hl
  have hl : lv_has ls 4 [(0, va_rf (some v0)), (1, .int x1)] := hl
  obtain ⟨hx, hb, hr, hml, hown, hW, hlocks, hnm, hK, hZ⟩ := id C
  have hown : s.vm.findClass "NetJoins" = some m.cls := hown
  have hA : ∀ q, s.heap.size ≤ q → fA h s.heap.size q := fun _ h => Or.inr h
  unfold wp_NJ_bestName at hw
  refine lv_iconst (v := (-1)) hx hb d_NJ_bestName_0 (by decide) ?_
  refine lv_istore_n (i := 2) (lv' := [(2, .int (-1 : Int32)), (0, va_rf (some v0)), (1, .int x1)]) hx hb d_NJ_bestName_1 rfl hl (by decide) rfl (fun ls hl => ?_)
  refine mx_aload_n (r := some v0) hx hb d_NJ_bestName_2 rfl (lv_at hl 1 rfl) ?_
  obtain ⟨t1, hw⟩ := hw
  refine mx_get (ci := 0) (C := "NetJoins") (T := F_NJ) (N := 18) hx hb hW hown hK.1 hR (a := v0) rfl t1 rfl i_NJ 12 2 (by decide) rfl kw_132 (fun _ h9 => h9) d_NJ_bestName_3 ?_
  refine lv_iload_n hx hb d_NJ_bestName_6 rfl (lv_at hl 2 rfl) ?_
  obtain ⟨a2, ea2, t3, t3i, hw⟩ := hw
  refine mx_iald hx hb hK.1 hR (a := a2) ea2 t3 t3i d_NJ_bestName_7 ?_
  refine lv_topi (fun y4 ey4 => ?_)
  have hw := hw y4 ey4
  refine lv_istore_n (i := 3) (lv' := [(3, .int y4), (2, .int (-1 : Int32)), (0, va_rf (some v0)), (1, .int x1)]) hx hb d_NJ_bestName_8 rfl hl (by decide) rfl (fun ls hl => ?_)
  obtain ⟨n9, hw⟩ := hw
  exact mn_NJ_bestName_9 C post n9 x1 (-1 : Int32) y4 _ _ _ _ hw (lv_sub hl [2, 3, 1, 0] rfl) hR
set_option maxHeartbeats 4000000 in
set_option maxRecDepth 100000 in
theorem mt_NJ_remark (l : Launch) (D : va_G) (cs : CS) (Z : Nat → Nat) (sz : Nat) {post : HS → Prop} {h : HS} {v0 : Nat} {x1 : Int32} (hw : wp_NJ_remark Z post h v0 x1) : Met l y_NJ_remark (Cond.code y_NJ_remark c_NJ_remark 2 none :: WA) ({ frames := 2, cells := 0, slots := 0, locals := 100 } : Room) (mPc D cs Z h sz [va_rf (some v0), .int x1]) (va_Qv post (mB D cs h sz) (fA h sz)) 0 0 (fA h sz) := by
  refine mx_met (fun sz => va_Qv post (mB D cs h sz) (fA h sz)) (by decide) (by simp [lg_sl, mx_rf_cat, cat_i, cat_l]) ?_
  intro p e s m args below meth c C hR ls hl
  have hl : lv_has ls 2 [(0, va_rf (some v0)), (1, .int x1)] := hl
  obtain ⟨hx, hb, hr, hml, hown, hW, hlocks, hnm, hK, hZ⟩ := id C
  have hown : s.vm.findClass "NetJoins" = some m.cls := hown
  have hA : ∀ q, s.heap.size ≤ q → fA h s.heap.size q := fun _ h => Or.inr h
  unfold wp_NJ_remark at hw
  refine mx_aload_n (r := some v0) hx hb d_NJ_remark_0 rfl (lv_at hl 0 rfl) ?_
  obtain ⟨t1, hw⟩ := hw
  refine mx_get (ci := 0) (C := "NetJoins") (T := F_NJ) (N := 18) hx hb hW hown hK.1 hR (a := v0) rfl t1 rfl i_NJ 16 0 (by decide) rfl kw_136 (fun _ h9 => h9) d_NJ_remark_1 ?_
  refine mx_aload_n (r := some v0) hx hb d_NJ_remark_4 rfl (lv_at hl 0 rfl) ?_
  obtain ⟨t2, hw⟩ := hw
  refine mx_get (ci := 0) (C := "NetJoins") (T := F_NJ) (N := 18) hx hb hW hown hK.1 hR (a := v0) rfl t2 rfl i_NJ 15 2 (by decide) rfl kw_135 (fun _ h9 => h9) d_NJ_remark_5 ?_
  obtain ⟨a3, ea3, t4, t4i, hw⟩ := hw
  refine mx_alen hx hb hK.1 hR (a := a3) ea3 t4 t4i d_NJ_remark_8 ?_
  refine lv_icmp_ge (tgt := 32) hx hb d_NJ_remark_9 (by decide) (fun c5 => ?_) (fun c5 => ?_)
  · have hw := hw.1 c5
    exact mx_vret hx hb hr hlocks hR hw d_NJ_remark_32
  · have hw := hw.2 c5
    refine mx_aload_n (r := some v0) hx hb d_NJ_remark_12 rfl (lv_at hl 0 rfl) ?_
    obtain ⟨t6, hw⟩ := hw
    refine mx_get (ci := 0) (C := "NetJoins") (T := F_NJ) (N := 18) hx hb hW hown hK.1 hR (a := v0) rfl t6 rfl i_NJ 15 2 (by decide) rfl kw_135 (fun _ h9 => h9) d_NJ_remark_13 ?_
    refine mx_aload_n (r := some v0) hx hb d_NJ_remark_16 rfl (lv_at hl 0 rfl) ?_
    obtain ⟨t7, hw⟩ := hw
    refine mx_get (ci := 0) (C := "NetJoins") (T := F_NJ) (N := 18) hx hb hW hown hK.1 hR (a := v0) rfl t7 rfl i_NJ 16 0 (by decide) rfl kw_136 (fun _ h9 => h9) d_NJ_remark_17 ?_
    refine lv_iload_n hx hb d_NJ_remark_20 rfl (lv_at hl 1 rfl) ?_
    obtain ⟨a8, ea8, t9, t9i, hw⟩ := hw
    refine mx_iast hx hb hK.1 hR (a := a8) ea8 t9 t9i d_NJ_remark_21 (fun H locs hR => ?_)
    obtain ⟨h10, eh10⟩ : ∃ z, z = sA h a8 (gI h 16 v0).toNatClampNeg x1 := ⟨_, rfl⟩
    rw [← eh10] at hR
    have hw := hw h10 eh10
    refine mx_aload_n (r := some v0) hx hb d_NJ_remark_22 rfl (lv_at hl 0 rfl) ?_
    refine lv_dup hx hb d_NJ_remark_23 (mx_rf_cat _) ?_
    obtain ⟨t11, hw⟩ := hw
    refine mx_get (ci := 0) (C := "NetJoins") (T := F_NJ) (N := 18) hx hb hW hown hK.1 hR (a := v0) rfl t11 rfl i_NJ 16 0 (by decide) rfl kw_136 (fun _ h9 => h9) d_NJ_remark_24 ?_
    refine lv_iconst (v := 1) hx hb d_NJ_remark_27 (by decide) ?_
    refine lv_iadd hx hb d_NJ_remark_28 ?_
    obtain ⟨t12, hw⟩ := hw
    refine mx_put (ci := 0) (C := "NetJoins") (T := F_NJ) (N := 18) (v := .int ((gI h10 16 v0) + (1 : Int32))) (h' := sI h10 16 v0 ((gI h10 16 v0) + (1 : Int32))) hx hb hW hown hK.1 hR (a := v0) rfl t12 rfl i_NJ t_NJ t_NJ_ok n_NJ 16 0 (by decide) rfl kw_136 (fun _ h9 => h9) rfl rfl rfl d_NJ_remark_29 rfl (toE_sI (ci := 0) (k := 16) t12 rfl) (fun H locs hR => ?_)
    obtain ⟨h13, eh13⟩ : ∃ z, z = sI h10 16 v0 ((gI h10 16 v0) + (1 : Int32)) := ⟨_, rfl⟩
    rw [← eh13] at hR
    have hw := hw h13 eh13
    exact mx_vret hx hb hr hlocks hR hw d_NJ_remark_32
set_option maxHeartbeats 4000000 in
set_option maxRecDepth 100000 in
theorem mn_NJ_remarkOtherNames_62 {D : va_G} {cs : CS} {Z : Nat → Nat} {h0 : HS} {p : Program} {l : Launch} {e : Env} {s : State} {m : MethodId} {args : Array Value} {below : List Frame} {meth : Method} {c : Code} {v0 : Nat} (C : mC D cs Z h0 y_NJ_remarkOtherNames c_NJ_remarkOtherNames 6 none p s m args meth c) (post : HS → Prop) (K16 : Int32 × Int32 × Int32 × Int32 × HS → Prop) (hK16 : ∀ (x1 : Int32) (x2 : Int32) (x3 : Int32) (x4 : Int32) (h : HS) (H : Heap) (locs : List Loc) (ls : Array Slot), K16 (x1, x2, x3, x4, h) → lv_has ls 6 [(0, va_rf (some v0)), (1, .int x1), (2, .int x2), (3, .int x3), (4, .int x4)] → mR D cs (fA h0 s.heap.size) h s.heap H locs → W p l e ({ frames := 3, cells := 0, slots := 0, locals := 123 } : Room) s m args below meth c H locs 0 0 (MQ below (va_Qv post (mB D cs h0 s.heap.size) (fA h0 s.heap.size)) args s 0 0 (fA h0 s.heap.size)) (F0 m 16 ls [])) : ∀ (x1 : Int32) (x2 : Int32) (x4 : Int32) (x5 : Int32) (h : HS) (H : Heap) (locs : List Loc) (ls : Array Slot), wj_NJ_remarkOtherNames_62 Z post K16 v0 x1 x2 x4 x5 h → lv_has ls 6 [(0, va_rf (some v0)), (1, .int x1), (2, .int x2), (4, .int x4), (5, .int x5)] → mR D cs (fA h0 s.heap.size) h s.heap H locs → W p l e ({ frames := 3, cells := 0, slots := 0, locals := 123 } : Room) s m args below meth c H locs 0 0 (MQ below (va_Qv post (mB D cs h0 s.heap.size) (fA h0 s.heap.size)) args s 0 0 (fA h0 s.heap.size)) (F0 m 62 ls []) := by
  obtain ⟨hx, hb, hr, hml, hown, hW, hlocks, hnm, hK, hZ⟩ := id C
  have hown : s.vm.findClass "NetJoins" = some m.cls := hown
  have hA : ∀ q, s.heap.size ≤ q → fA h0 s.heap.size q := fun _ h => Or.inr h
  intro x1 x2 x4 x5 h H locs ls hw hl hR
  unfold wj_NJ_remarkOtherNames_62 at hw
  refine lv_iload hx hb d_NJ_remarkOtherNames_62 (lv_at hl 4 rfl) ?_
  refine lv_istore_n (i := 3) (lv' := [(3, .int x5), (0, va_rf (some v0)), (1, .int x1), (2, .int x2), (4, .int x4), (5, .int x5)]) hx hb d_NJ_remarkOtherNames_64 rfl hl (by decide) rfl (fun ls hl => ?_)
  obtain ⟨y1, ey1⟩ : ∃ y : Int32, y = x4 + (1 : Int32) := ⟨_, rfl⟩
  have hw := hw y1 ey1
  refine lv_iinc (v := y1) (lv' := [(4, .int y1), (3, .int x5), (0, va_rf (some v0)), (1, .int x1), (2, .int x2), (5, .int x5)]) hx hb d_NJ_remarkOtherNames_65 hl (k := 4) rfl (by rw [ey1]; rfl) (by decide) rfl (fun ls hl => ?_)
  refine lv_goto (tgt := 16) hx hb d_NJ_remarkOtherNames_68 (by decide) ?_
  exact hK16 x1 x2 x5 y1 _ _ _ _ hw (lv_sub hl [2, 3, 4, 1, 0] rfl) hR
set_option maxHeartbeats 4000000 in
set_option maxRecDepth 100000 in
theorem mn_NJ_remarkOtherNames_16 {D : va_G} {cs : CS} {Z : Nat → Nat} {h0 : HS} {p : Program} {l : Launch} {e : Env} {s : State} {m : MethodId} {args : Array Value} {below : List Frame} {meth : Method} {c : Code} {v0 : Nat} (C : mC D cs Z h0 y_NJ_remarkOtherNames c_NJ_remarkOtherNames 6 none p s m args meth c) (post : HS → Prop) : ∀ (n : Nat) (x1 : Int32) (x2 : Int32) (x3 : Int32) (x4 : Int32) (h : HS) (H : Heap) (locs : List Loc) (ls : Array Slot), lpF (wb_NJ_remarkOtherNames_16 Z post v0) n (x1, x2, x3, x4, h) → lv_has ls 6 [(0, va_rf (some v0)), (1, .int x1), (2, .int x2), (3, .int x3), (4, .int x4)] → mR D cs (fA h0 s.heap.size) h s.heap H locs → W p l e ({ frames := 3, cells := 0, slots := 0, locals := 123 } : Room) s m args below meth c H locs 0 0 (MQ below (va_Qv post (mB D cs h0 s.heap.size) (fA h0 s.heap.size)) args s 0 0 (fA h0 s.heap.size)) (F0 m 16 ls []) := by
  obtain ⟨hx, hb, hr, hml, hown, hW, hlocks, hnm, hK, hZ⟩ := id C
  have hown : s.vm.findClass "NetJoins" = some m.cls := hown
  have hA : ∀ q, s.heap.size ≤ q → fA h0 s.heap.size q := fun _ h => Or.inr h
  intro n
  induction n with
  | zero => intro x1 x2 x3 x4 h H locs ls hw; exact hw.elim
  | succ n ih =>
    intro x1 x2 x3 x4 h H locs ls hw hl hR
    have hw : wb_NJ_remarkOtherNames_16 Z post v0 (lpF (wb_NJ_remarkOtherNames_16 Z post v0) n) (x1, x2, x3, x4, h) := hw
    unfold wb_NJ_remarkOtherNames_16 at hw
    dsimp only at hw
    refine lv_iload hx hb d_NJ_remarkOtherNames_16 (lv_at hl 4 rfl) ?_
    refine mx_aload_n (r := some v0) hx hb d_NJ_remarkOtherNames_18 rfl (lv_at hl 0 rfl) ?_
    obtain ⟨t1, hw⟩ := hw
    refine mx_get (ci := 0) (C := "NetJoins") (T := F_NJ) (N := 18) hx hb hW hown hK.1 hR (a := v0) rfl t1 rfl i_NJ 12 2 (by decide) rfl kw_132 (fun _ h9 => h9) d_NJ_remarkOtherNames_19 ?_
    refine lv_iload_n hx hb d_NJ_remarkOtherNames_22 rfl (lv_at hl 1 rfl) ?_
    refine lv_iconst (v := 1) hx hb d_NJ_remarkOtherNames_23 (by decide) ?_
    refine lv_iadd hx hb d_NJ_remarkOtherNames_24 ?_
    obtain ⟨a2, ea2, t3, t3i, hw⟩ := hw
    refine mx_iald hx hb hK.1 hR (a := a2) ea2 t3 t3i d_NJ_remarkOtherNames_25 ?_
    refine lv_icmp_ge (tgt := 71) hx hb d_NJ_remarkOtherNames_26 (by decide) (fun c4 => ?_) (fun c4 => ?_)
    · have hw := hw.1 c4
      exact mx_vret hx hb hr hlocks hR hw d_NJ_remarkOtherNames_71
    · have hw := hw.2 c4
      refine mx_aload_n (r := some v0) hx hb d_NJ_remarkOtherNames_29 rfl (lv_at hl 0 rfl) ?_
      obtain ⟨t5, hw⟩ := hw
      refine mx_get (ci := 0) (C := "NetJoins") (T := F_NJ) (N := 18) hx hb hW hown hK.1 hR (a := v0) rfl t5 rfl i_NJ 13 2 (by decide) rfl kw_133 (fun _ h9 => h9) d_NJ_remarkOtherNames_30 ?_
      refine lv_iload hx hb d_NJ_remarkOtherNames_33 (lv_at hl 4 rfl) ?_
      obtain ⟨a6, ea6, t7, t7i, hw⟩ := hw
      refine mx_iald hx hb hK.1 hR (a := a6) ea6 t7 t7i d_NJ_remarkOtherNames_35 ?_
      refine lv_topi (fun y8 ey8 => ?_)
      have hw := hw y8 ey8
      refine lv_istore (i := 5) (lv' := [(5, .int y8), (0, va_rf (some v0)), (1, .int x1), (2, .int x2), (3, .int x3), (4, .int x4)]) hx hb d_NJ_remarkOtherNames_36 hl (by decide) rfl (fun ls hl => ?_)
      refine lv_iload hx hb d_NJ_remarkOtherNames_38 (lv_at hl 0 rfl) ?_
      refine lv_iload_n hx hb d_NJ_remarkOtherNames_40 rfl (lv_at hl 3 rfl) ?_
      refine lv_icmp_eq (tgt := 62) hx hb d_NJ_remarkOtherNames_41 (by decide) (fun c9 => ?_) (fun c9 => ?_)
      · have hw := hw.1 c9
        exact mn_NJ_remarkOtherNames_62 C post (lpF (wb_NJ_remarkOtherNames_16 Z post v0) n) ih x1 x2 x4 y8 _ _ _ _ hw (lv_sub hl [1, 2, 3, 5, 0] rfl) hR
      · have hw := hw.2 c9
        refine lv_iload hx hb d_NJ_remarkOtherNames_44 (lv_at hl 0 rfl) ?_
        refine lv_iload_n hx hb d_NJ_remarkOtherNames_46 rfl (lv_at hl 4 rfl) ?_
        refine lv_icmp_eq (tgt := 62) hx hb d_NJ_remarkOtherNames_47 (by decide) (fun c10 => ?_) (fun c10 => ?_)
        · have hw := hw.1 c10
          exact mn_NJ_remarkOtherNames_62 C post (lpF (wb_NJ_remarkOtherNames_16 Z post v0) n) ih x1 x2 x4 y8 _ _ _ _ hw (lv_sub hl [1, 2, 3, 5, 0] rfl) hR
        · have hw := hw.2 c10
          refine mx_aload_n (r := some v0) hx hb d_NJ_remarkOtherNames_50 rfl (lv_at hl 1 rfl) ?_
          refine lv_sipush (v := 1000) hx hb d_NJ_remarkOtherNames_51 (by decide) ?_
          refine lv_iload_n hx hb d_NJ_remarkOtherNames_54 rfl (lv_at hl 2 rfl) ?_
          refine lv_imul hx hb d_NJ_remarkOtherNames_55 ?_
          refine lv_iload hx hb d_NJ_remarkOtherNames_56 (lv_at hl 0 rfl) ?_
          refine lv_iadd hx hb d_NJ_remarkOtherNames_58 ?_
          obtain ⟨t13, hw⟩ := hw
          refine mx_callv (va_runV (b := v0) (As := [.int (((1000 : Int32) * x1) + y8)]) (rest := []) ⟨hx, hb, hml, hown, hW⟩ (mt_NJ_remark l D cs Z _ hw) (mx_cwV hW ok_NJ_remark kw_244 rfl rfl ⟨Nat.le_of_ble_eq_true rfl, Nat.le_of_ble_eq_true rfl⟩) (mx_preV hK hZ hA hR (ci := 0) rfl t13) rfl rfl hl.1 rfl (lv_room (Nat.le_of_ble_eq_true rfl)) d_NJ_remarkOtherNames_59 ⟨Nat.le_of_ble_eq_true rfl, Nat.le_of_ble_eq_true rfl⟩) hR hA (fun h12 H locs hw hR => ?_)
          try dsimp only at hw
          exact mn_NJ_remarkOtherNames_62 C post (lpF (wb_NJ_remarkOtherNames_16 Z post v0) n) ih x1 x2 x4 y8 _ _ _ _ hw (lv_sub hl [1, 2, 3, 5, 0] rfl) hR
set_option maxHeartbeats 4000000 in
set_option maxRecDepth 100000 in
theorem mt_NJ_remarkOtherNames (l : Launch) (D : va_G) (cs : CS) (Z : Nat → Nat) (sz : Nat) {post : HS → Prop} {h : HS} {v0 : Nat} {x1 : Int32} (hw : wp_NJ_remarkOtherNames Z post h v0 x1) : Met l y_NJ_remarkOtherNames (Cond.code y_NJ_remarkOtherNames c_NJ_remarkOtherNames 6 none :: WA) ({ frames := 3, cells := 0, slots := 0, locals := 123 } : Room) (mPc D cs Z h sz [va_rf (some v0), .int x1]) (va_Qv post (mB D cs h sz) (fA h sz)) 0 0 (fA h sz) := by
  refine mx_met (fun sz => va_Qv post (mB D cs h sz) (fA h sz)) (by decide) (by simp [lg_sl, mx_rf_cat, cat_i, cat_l]) ?_
  intro p e s m args below meth c C hR ls hl
  have hl : lv_has ls 6 [(0, va_rf (some v0)), (1, .int x1)] := hl
  obtain ⟨hx, hb, hr, hml, hown, hW, hlocks, hnm, hK, hZ⟩ := id C
  have hown : s.vm.findClass "NetJoins" = some m.cls := hown
  have hA : ∀ q, s.heap.size ≤ q → fA h s.heap.size q := fun _ h => Or.inr h
  unfold wp_NJ_remarkOtherNames at hw
  refine mx_aload_n (r := some v0) hx hb d_NJ_remarkOtherNames_0 rfl (lv_at hl 0 rfl) ?_
  refine lv_iload_n hx hb d_NJ_remarkOtherNames_1 rfl (lv_at hl 1 rfl) ?_
  obtain ⟨t3, hw⟩ := hw
  refine mx_calli (va_runV (b := v0) (As := [.int x1]) (rest := []) ⟨hx, hb, hml, hown, hW⟩ (mt_NJ_bestName l D cs Z _ hw) (mx_cwV hW ok_NJ_bestName kw_240 rfl rfl ⟨Nat.le_of_ble_eq_true rfl, Nat.le_of_ble_eq_true rfl⟩) (mx_preV hK hZ hA hR (ci := 0) rfl t3) rfl rfl hl.1 rfl (lv_room (Nat.le_of_ble_eq_true rfl)) d_NJ_remarkOtherNames_2 ⟨Nat.le_of_ble_eq_true rfl, Nat.le_of_ble_eq_true rfl⟩) hR hA (fun r1 h2 H locs hw hR => ?_)
  try dsimp only at hw
  refine lv_istore_n (i := 2) (lv' := [(2, .int r1), (0, va_rf (some v0)), (1, .int x1)]) hx hb d_NJ_remarkOtherNames_5 rfl hl (by decide) rfl (fun ls hl => ?_)
  refine lv_iconst (v := (-1)) hx hb d_NJ_remarkOtherNames_6 (by decide) ?_
  refine lv_istore_n (i := 3) (lv' := [(3, .int (-1 : Int32)), (2, .int r1), (0, va_rf (some v0)), (1, .int x1)]) hx hb d_NJ_remarkOtherNames_7 rfl hl (by decide) rfl (fun ls hl => ?_)
  refine mx_aload_n (r := some v0) hx hb d_NJ_remarkOtherNames_8 rfl (lv_at hl 2 rfl) ?_
  obtain ⟨t4, hw⟩ := hw
  refine mx_get (ci := 0) (C := "NetJoins") (T := F_NJ) (N := 18) hx hb hW hown hK.1 hR (a := v0) rfl t4 rfl i_NJ 12 2 (by decide) rfl kw_132 (fun _ h9 => h9) d_NJ_remarkOtherNames_9 ?_
  refine lv_iload_n hx hb d_NJ_remarkOtherNames_12 rfl (lv_at hl 3 rfl) ?_
  obtain ⟨a5, ea5, t6, t6i, hw⟩ := hw
  refine mx_iald hx hb hK.1 hR (a := a5) ea5 t6 t6i d_NJ_remarkOtherNames_13 ?_
  refine lv_topi (fun y7 ey7 => ?_)
  have hw := hw y7 ey7
  refine lv_istore (i := 4) (lv' := [(4, .int y7), (3, .int (-1 : Int32)), (2, .int r1), (0, va_rf (some v0)), (1, .int x1)]) hx hb d_NJ_remarkOtherNames_14 hl (by decide) rfl (fun ls hl => ?_)
  obtain ⟨n9, hw⟩ := hw
  exact mn_NJ_remarkOtherNames_16 C post n9 x1 r1 (-1 : Int32) y7 _ _ _ _ hw (lv_sub hl [3, 4, 2, 1, 0] rfl) hR
set_option maxHeartbeats 4000000 in
set_option maxRecDepth 100000 in
theorem mn_NJ_hasSpotAt_3 {D : va_G} {cs : CS} {Z : Nat → Nat} {h0 : HS} {p : Program} {l : Launch} {e : Env} {s : State} {m : MethodId} {args : Array Value} {below : List Frame} {meth : Method} {c : Code} (C : mC D cs Z h0 y_NJ_hasSpotAt c_NJ_hasSpotAt 7 (some .boolean) p s m args meth c) (post : Int32 → HS → Prop) : ∀ (n : Nat) (x0 : Option Nat) (x1 : Int32) (x2 : Int64) (x4 : Int64) (x6 : Int32) (h : HS) (H : Heap) (locs : List Loc) (ls : Array Slot), lpF (wb_NJ_hasSpotAt_3 Z post) n (x0, x1, x2, x4, x6, h) → lv_has ls 7 [(0, va_rf x0), (1, .int x1), (2, .long x2), (4, .long x4), (6, .int x6)] → mR D cs (fA h0 s.heap.size) h s.heap H locs → W p l e ({ frames := 5, cells := 0, slots := 0, locals := 164 } : Room) s m args below meth c H locs 0 0 (MQ below (va_Qi post (mB D cs h0 s.heap.size) (fA h0 s.heap.size)) args s 0 0 (fA h0 s.heap.size)) (F0 m 3 ls []) := by
  obtain ⟨hx, hb, hr, hml, hown, hW, hlocks, hnm, hK, hZ⟩ := id C
  have hown : s.vm.findClass "NetJoins" = some m.cls := hown
  have hA : ∀ q, s.heap.size ≤ q → fA h0 s.heap.size q := fun _ h => Or.inr h
  intro n
  induction n with
  | zero => intro x0 x1 x2 x4 x6 h H locs ls hw; exact hw.elim
  | succ n ih =>
    intro x0 x1 x2 x4 x6 h H locs ls hw hl hR
    have hw : wb_NJ_hasSpotAt_3 Z post (lpF (wb_NJ_hasSpotAt_3 Z post) n) (x0, x1, x2, x4, x6, h) := hw
    unfold wb_NJ_hasSpotAt_3 at hw
    dsimp only at hw
    refine lv_iload hx hb d_NJ_hasSpotAt_3 (lv_at hl 4 rfl) ?_
    refine mx_aload_n (r := x0) hx hb d_NJ_hasSpotAt_5 rfl (lv_at hl 0 rfl) ?_
    obtain ⟨a3, ea3, t4, hw⟩ := hw
    refine W.eq (g2 := F0 m 6 ls [va_rf (some a3), .int x6]) (by rw [← ea3] <;> rfl) ?_
    refine mx_calli (va_runV (b := a3) (As := []) (rest := [.int x6]) ⟨hx, hb, hml, hown, hW⟩ (mt_AL_size l D cs Z _ hw) (mx_cwV hW ok_AL_size kw_192 rfl rfl ⟨Nat.le_of_ble_eq_true rfl, Nat.le_of_ble_eq_true rfl⟩) (mx_preV hK hZ hA hR (ci := 9) rfl t4) rfl rfl hl.1 rfl (lv_room (Nat.le_of_ble_eq_true rfl)) d_NJ_hasSpotAt_6 ⟨Nat.le_of_ble_eq_true rfl, Nat.le_of_ble_eq_true rfl⟩) hR hA (fun r1 h2 H locs hw hR => ?_)
    try dsimp only at hw
    refine lv_icmp_ge (tgt := 39) hx hb d_NJ_hasSpotAt_9 (by decide) (fun c5 => ?_) (fun c5 => ?_)
    · have hw := hw.1 c5
      refine lv_iconst (v := 0) hx hb d_NJ_hasSpotAt_39 (by decide) ?_
      exact mx_zret hx hb hr hlocks hR (Or.inl rfl) hw d_NJ_hasSpotAt_40
    · have hw := hw.2 c5
      refine mx_aload_n (r := x0) hx hb d_NJ_hasSpotAt_12 rfl (lv_at hl 0 rfl) ?_
      refine lv_iload hx hb d_NJ_hasSpotAt_13 (lv_at hl 4 rfl) ?_
      obtain ⟨a8, ea8, t9, hw⟩ := hw
      refine W.eq (g2 := F0 m 15 ls [.int x6, va_rf (some a8)]) (by rw [← ea8] <;> rfl) ?_
      refine mx_callr (va_runV (b := a8) (As := [.int x6]) (rest := []) ⟨hx, hb, hml, hown, hW⟩ (mt_AL_get l D cs Z _ hw) (mx_cwV hW ok_AL_get kw_196 rfl rfl ⟨Nat.le_of_ble_eq_true rfl, Nat.le_of_ble_eq_true rfl⟩) (mx_preV hK hZ hA hR (ci := 9) rfl t9) rfl rfl hl.1 rfl (lv_room (Nat.le_of_ble_eq_true rfl)) d_NJ_hasSpotAt_15 ⟨Nat.le_of_ble_eq_true rfl, Nat.le_of_ble_eq_true rfl⟩) hR hA (fun r6 h7 H locs hw hR => ?_)
      try dsimp only at hw
      obtain ⟨t10, hw⟩ := hw
      refine mx_cast (ci := 6) (C := "NetJoins$Spot") (T := F_Spot) (N := 6) hx hb hW hown hK.1 hR rfl kw_210 t10 d_NJ_hasSpotAt_18 ?_
      refine lv_iload_n hx hb d_NJ_hasSpotAt_21 rfl (lv_at hl 1 rfl) ?_
      refine lv_lload_n hx hb d_NJ_hasSpotAt_22 rfl (lv_at hl 2 rfl) ?_
      refine lv_lload hx hb d_NJ_hasSpotAt_23 (lv_at hl 3 rfl) ?_
      obtain ⟨a13, ea13, t14, hw⟩ := hw
      refine W.eq (g2 := F0 m 25 ls [.long x4, .long x2, .int x1, va_rf (some a13)]) (by rw [← ea13] <;> rfl) ?_
      refine mx_calli (va_runV (b := a13) (As := [.int x1, .long x2, .long x4]) (rest := []) ⟨hx, hb, hml, hown, hW⟩ (mt_Spot_isAt l D cs Z _ hw) (mx_cwV hW ok_Spot_isAt kw_255 rfl rfl ⟨Nat.le_of_ble_eq_true rfl, Nat.le_of_ble_eq_true rfl⟩) (mx_preV hK hZ hA hR (ci := 6) rfl t14) rfl rfl hl.1 rfl (lv_room (Nat.le_of_ble_eq_true rfl)) d_NJ_hasSpotAt_25 ⟨Nat.le_of_ble_eq_true rfl, Nat.le_of_ble_eq_true rfl⟩) hR hA (fun r11 h12 H locs hw hR => ?_)
      try dsimp only at hw
      refine lv_if_eq (tgt := 33) hx hb d_NJ_hasSpotAt_28 (by decide) (fun c15 => ?_) (fun c15 => ?_)
      · have hw := hw.1 c15
        obtain ⟨y16, ey16⟩ : ∃ y : Int32, y = x6 + (1 : Int32) := ⟨_, rfl⟩
        have hw := hw y16 ey16
        refine lv_iinc (v := y16) (lv' := [(6, .int y16), (0, va_rf x0), (1, .int x1), (2, .long x2), (4, .long x4)]) hx hb d_NJ_hasSpotAt_33 hl (k := 4) rfl (by rw [ey16]; rfl) (by decide) rfl (fun ls hl => ?_)
        refine lv_goto (tgt := 3) hx hb d_NJ_hasSpotAt_36 (by decide) ?_
        exact ih x0 x1 x2 x4 y16 _ _ _ _ hw (lv_sub hl [1, 2, 3, 4, 0] rfl) hR
      · have hw := hw.2 c15
        refine lv_iconst (v := 1) hx hb d_NJ_hasSpotAt_31 (by decide) ?_
        exact mx_zret hx hb hr hlocks hR (Or.inr rfl) hw d_NJ_hasSpotAt_32
set_option maxHeartbeats 4000000 in
set_option maxRecDepth 100000 in
theorem mt_NJ_hasSpotAt (l : Launch) (D : va_G) (cs : CS) (Z : Nat → Nat) (sz : Nat) {post : Int32 → HS → Prop} {h : HS} {x0 : Option Nat} {x1 : Int32} {x2 : Int64} {x4 : Int64} (hw : wp_NJ_hasSpotAt Z post h x0 x1 x2 x4) : Met l y_NJ_hasSpotAt (Cond.code y_NJ_hasSpotAt c_NJ_hasSpotAt 7 (some .boolean) :: WA) ({ frames := 5, cells := 0, slots := 0, locals := 164 } : Room) (mPc D cs Z h sz [va_rf x0, .int x1, .long x2, .long x4]) (va_Qi post (mB D cs h sz) (fA h sz)) 0 0 (fA h sz) := by
  refine mx_met (fun sz => va_Qi post (mB D cs h sz) (fA h sz)) (by decide) (by simp [lg_sl, mx_rf_cat, cat_i, cat_l]) ?_
  intro p e s m args below meth c C hR ls hl
  have hl : lv_has ls 7 [(0, va_rf x0), (1, .int x1), (2, .long x2), (4, .long x4)] := by simpa [lv_args, mx_rf_cat, cat_i, cat_l] using hl
  obtain ⟨hx, hb, hr, hml, hown, hW, hlocks, hnm, hK, hZ⟩ := id C
  have hown : s.vm.findClass "NetJoins" = some m.cls := hown
  have hA : ∀ q, s.heap.size ≤ q → fA h s.heap.size q := fun _ h => Or.inr h
  unfold wp_NJ_hasSpotAt at hw
  refine lv_iconst (v := 0) hx hb d_NJ_hasSpotAt_0 (by decide) ?_
  refine lv_istore (i := 6) (lv' := [(6, .int (0 : Int32)), (0, va_rf x0), (1, .int x1), (2, .long x2), (4, .long x4)]) hx hb d_NJ_hasSpotAt_1 hl (by decide) rfl (fun ls hl => ?_)
  obtain ⟨n9, hw⟩ := hw
  exact mn_NJ_hasSpotAt_3 C post n9 x0 x1 x2 x4 (0 : Int32) _ _ _ _ hw (lv_sub hl [1, 2, 3, 4, 0] rfl) hR
set_option maxHeartbeats 4000000 in
set_option maxRecDepth 100000 in
theorem mn_NJ_isLoose_26 {D : va_G} {cs : CS} {Z : Nat → Nat} {h0 : HS} {p : Program} {l : Launch} {e : Env} {s : State} {m : MethodId} {args : Array Value} {below : List Frame} {meth : Method} {c : Code} {v0 : Nat} (C : mC D cs Z h0 y_NJ_isLoose c_NJ_isLoose 3 (some .boolean) p s m args meth c) (post : Int32 → HS → Prop) : ∀ (n : Nat) (x1 : Option Nat) (x2 : Int32) (h : HS) (H : Heap) (locs : List Loc) (ls : Array Slot), lpF (wb_NJ_isLoose_26 Z post v0) n (x1, x2, h) → lv_has ls 3 [(0, va_rf (some v0)), (1, va_rf x1), (2, .int x2)] → mR D cs (fA h0 s.heap.size) h s.heap H locs → W p l e ({ frames := 6, cells := 0, slots := 0, locals := 190 } : Room) s m args below meth c H locs 0 0 (MQ below (va_Qi post (mB D cs h0 s.heap.size) (fA h0 s.heap.size)) args s 0 0 (fA h0 s.heap.size)) (F0 m 26 ls []) := by
  obtain ⟨hx, hb, hr, hml, hown, hW, hlocks, hnm, hK, hZ⟩ := id C
  have hown : s.vm.findClass "NetJoins" = some m.cls := hown
  have hA : ∀ q, s.heap.size ≤ q → fA h0 s.heap.size q := fun _ h => Or.inr h
  intro n
  induction n with
  | zero => intro x1 x2 h H locs ls hw; exact hw.elim
  | succ n ih =>
    intro x1 x2 h H locs ls hw hl hR
    have hw : wb_NJ_isLoose_26 Z post v0 (lpF (wb_NJ_isLoose_26 Z post v0) n) (x1, x2, h) := hw
    unfold wb_NJ_isLoose_26 at hw
    dsimp only at hw
    refine lv_iload_n hx hb d_NJ_isLoose_26 rfl (lv_at hl 2 rfl) ?_
    refine mx_aload_n (r := some v0) hx hb d_NJ_isLoose_27 rfl (lv_at hl 0 rfl) ?_
    obtain ⟨t1, hw⟩ := hw
    refine mx_get (ci := 0) (C := "NetJoins") (T := F_NJ) (N := 18) hx hb hW hown hK.1 hR (a := v0) rfl t1 rfl i_NJ 1 2 (by decide) rfl kw_121 (fun _ h9 => h9) d_NJ_isLoose_28 ?_
    obtain ⟨a4, ea4, t5, hw⟩ := hw
    refine W.eq (g2 := F0 m 31 ls [va_rf (some a4), .int x2]) (by rw [← ea4] <;> rfl) ?_
    refine mx_calli (va_runV (b := a4) (As := []) (rest := [.int x2]) ⟨hx, hb, hml, hown, hW⟩ (mt_AL_size l D cs Z _ hw) (mx_cwV hW ok_AL_size kw_192 rfl rfl ⟨Nat.le_of_ble_eq_true rfl, Nat.le_of_ble_eq_true rfl⟩) (mx_preV hK hZ hA hR (ci := 9) rfl t5) rfl rfl hl.1 rfl (lv_room (Nat.le_of_ble_eq_true rfl)) d_NJ_isLoose_31 ⟨Nat.le_of_ble_eq_true rfl, Nat.le_of_ble_eq_true rfl⟩) hR hA (fun r2 h3 H locs hw hR => ?_)
    try dsimp only at hw
    refine lv_icmp_ge (tgt := 63) hx hb d_NJ_isLoose_34 (by decide) (fun c6 => ?_) (fun c6 => ?_)
    · have hw := hw.1 c6
      refine lv_iconst (v := 1) hx hb d_NJ_isLoose_63 (by decide) ?_
      exact mx_zret hx hb hr hlocks hR (Or.inr rfl) hw d_NJ_isLoose_64
    · have hw := hw.2 c6
      refine mx_aload_n (r := some v0) hx hb d_NJ_isLoose_37 rfl (lv_at hl 0 rfl) ?_
      obtain ⟨t7, hw⟩ := hw
      refine mx_get (ci := 0) (C := "NetJoins") (T := F_NJ) (N := 18) hx hb hW hown hK.1 hR (a := v0) rfl t7 rfl i_NJ 1 2 (by decide) rfl kw_121 (fun _ h9 => h9) d_NJ_isLoose_38 ?_
      refine lv_iload_n hx hb d_NJ_isLoose_41 rfl (lv_at hl 2 rfl) ?_
      obtain ⟨a10, ea10, t11, hw⟩ := hw
      refine W.eq (g2 := F0 m 42 ls [.int x2, va_rf (some a10)]) (by rw [← ea10] <;> rfl) ?_
      refine mx_callr (va_runV (b := a10) (As := [.int x2]) (rest := []) ⟨hx, hb, hml, hown, hW⟩ (mt_AL_get l D cs Z _ hw) (mx_cwV hW ok_AL_get kw_196 rfl rfl ⟨Nat.le_of_ble_eq_true rfl, Nat.le_of_ble_eq_true rfl⟩) (mx_preV hK hZ hA hR (ci := 9) rfl t11) rfl rfl hl.1 rfl (lv_room (Nat.le_of_ble_eq_true rfl)) d_NJ_isLoose_42 ⟨Nat.le_of_ble_eq_true rfl, Nat.le_of_ble_eq_true rfl⟩) hR hA (fun r8 h9 H locs hw hR => ?_)
      try dsimp only at hw
      obtain ⟨t12, hw⟩ := hw
      refine mx_cast (ci := 7) (C := "NetJoins$Wire") (T := F_Wire) (N := 7) hx hb hW hown hK.1 hR rfl kw_259 t12 d_NJ_isLoose_45 ?_
      refine mx_aload_n (r := x1) hx hb d_NJ_isLoose_48 rfl (lv_at hl 1 rfl) ?_
      obtain ⟨a15, ea15, t16, hw⟩ := hw
      refine W.eq (g2 := F0 m 49 ls [va_rf x1, va_rf (some a15)]) (by rw [← ea15] <;> rfl) ?_
      refine mx_calli (va_runV (b := a15) (As := [va_rf x1]) (rest := []) ⟨hx, hb, hml, hown, hW⟩ (mt_Wire_goesThrough l D cs Z _ hw) (mx_cwV hW ok_Wire_goesThrough kw_260 rfl rfl ⟨Nat.le_of_ble_eq_true rfl, Nat.le_of_ble_eq_true rfl⟩) (mx_preV hK hZ hA hR (ci := 7) rfl t16) rfl rfl hl.1 rfl (lv_room (Nat.le_of_ble_eq_true rfl)) d_NJ_isLoose_49 ⟨Nat.le_of_ble_eq_true rfl, Nat.le_of_ble_eq_true rfl⟩) hR hA (fun r13 h14 H locs hw hR => ?_)
      try dsimp only at hw
      refine lv_if_eq (tgt := 57) hx hb d_NJ_isLoose_52 (by decide) (fun c17 => ?_) (fun c17 => ?_)
      · have hw := hw.1 c17
        obtain ⟨y18, ey18⟩ : ∃ y : Int32, y = x2 + (1 : Int32) := ⟨_, rfl⟩
        have hw := hw y18 ey18
        refine lv_iinc (v := y18) (lv' := [(2, .int y18), (0, va_rf (some v0)), (1, va_rf x1)]) hx hb d_NJ_isLoose_57 hl (k := 2) rfl (by rw [ey18]; rfl) (by decide) (by simp [mx_rf_cat]) (fun ls hl => ?_)
        refine lv_goto (tgt := 26) hx hb d_NJ_isLoose_60 (by decide) ?_
        exact ih x1 y18 _ _ _ _ hw (lv_sub hl [1, 2, 0] rfl) hR
      · have hw := hw.2 c17
        refine lv_iconst (v := 0) hx hb d_NJ_isLoose_55 (by decide) ?_
        exact mx_zret hx hb hr hlocks hR (Or.inl rfl) hw d_NJ_isLoose_56
set_option maxHeartbeats 4000000 in
set_option maxRecDepth 100000 in
theorem mt_NJ_isLoose (l : Launch) (D : va_G) (cs : CS) (Z : Nat → Nat) (sz : Nat) {post : Int32 → HS → Prop} {h : HS} {v0 : Nat} {x1 : Option Nat} (hw : wp_NJ_isLoose Z post h v0 x1) : Met l y_NJ_isLoose (Cond.code y_NJ_isLoose c_NJ_isLoose 3 (some .boolean) :: WA) ({ frames := 6, cells := 0, slots := 0, locals := 190 } : Room) (mPc D cs Z h sz [va_rf (some v0), va_rf x1]) (va_Qi post (mB D cs h sz) (fA h sz)) 0 0 (fA h sz) := by
  refine mx_met (fun sz => va_Qi post (mB D cs h sz) (fA h sz)) (by decide) (by simp [lg_sl, mx_rf_cat, cat_i, cat_l]) ?_
  intro p e s m args below meth c C hR ls hl
  have hl : lv_has ls 3 [(0, va_rf (some v0)), (1, va_rf x1)] := by simpa [lv_args, mx_rf_cat, cat_i, cat_l] using hl
  obtain ⟨hx, hb, hr, hml, hown, hW, hlocks, hnm, hK, hZ⟩ := id C
  have hown : s.vm.findClass "NetJoins" = some m.cls := hown
  have hA : ∀ q, s.heap.size ≤ q → fA h s.heap.size q := fun _ h => Or.inr h
  unfold wp_NJ_isLoose at hw
  refine mx_aload_n (r := some v0) hx hb d_NJ_isLoose_0 rfl (lv_at hl 0 rfl) ?_
  obtain ⟨t1, hw⟩ := hw
  refine mx_get (ci := 0) (C := "NetJoins") (T := F_NJ) (N := 18) hx hb hW hown hK.1 hR (a := v0) rfl t1 rfl i_NJ 5 2 (by decide) rfl kw_125 (fun _ h9 => h9) d_NJ_isLoose_1 ?_
  refine mx_aload_n (r := x1) hx hb d_NJ_isLoose_4 rfl (lv_at hl 1 rfl) ?_
  obtain ⟨a2, ea2, t3, hw⟩ := hw
  refine mx_get (ci := 6) (C := "NetJoins$Spot") (T := F_Spot) (N := 6) hx hb hW hown hK.1 hR (a := a2) ea2 t3 rfl i_Spot 0 0 (by decide) rfl kw_700 (fun _ h9 => h9) d_NJ_isLoose_5 ?_
  refine mx_aload_n (r := x1) hx hb d_NJ_isLoose_8 rfl (lv_at hl 1 rfl) ?_
  obtain ⟨a4, ea4, t5, hw⟩ := hw
  refine mx_get (ci := 6) (C := "NetJoins$Spot") (T := F_Spot) (N := 6) hx hb hW hown hK.1 hR (a := a4) ea4 t5 rfl i_Spot 1 1 (by decide) rfl kw_703 (fun _ h9 => h9) d_NJ_isLoose_9 ?_
  refine mx_aload_n (r := x1) hx hb d_NJ_isLoose_12 rfl (lv_at hl 1 rfl) ?_
  obtain ⟨a6, ea6, t7, hw⟩ := hw
  refine mx_get (ci := 6) (C := "NetJoins$Spot") (T := F_Spot) (N := 6) hx hb hW hown hK.1 hR (a := a6) ea6 t7 rfl i_Spot 2 1 (by decide) rfl kw_706 (fun _ h9 => h9) d_NJ_isLoose_13 ?_
  refine mx_calli (va_runS (As := [va_rf (gR h 5 v0), .int (gI h 600 a2), .long (gJ h 601 a4), .long (gJ h 602 a6)]) (rest := []) ⟨hx, hb, hml, hown, hW⟩ (mt_NJ_hasSpotAt l D cs Z _ hw) (mx_cwS hW ok_NJ_hasSpotAt kw_252 rfl rfl ⟨Nat.le_of_ble_eq_true rfl, Nat.le_of_ble_eq_true rfl⟩) (mx_preS hK hZ hA hR) rfl rfl hl.1 rfl (lv_room (Nat.le_of_ble_eq_true rfl)) d_NJ_isLoose_16 ⟨Nat.le_of_ble_eq_true rfl, Nat.le_of_ble_eq_true rfl⟩) hR hA (fun r8 h9 H locs hw hR => ?_)
  try dsimp only at hw
  refine lv_if_eq (tgt := 24) hx hb d_NJ_isLoose_19 (by decide) (fun c10 => ?_) (fun c10 => ?_)
  · have hw := hw.1 c10
    refine lv_iconst (v := 0) hx hb d_NJ_isLoose_24 (by decide) ?_
    refine lv_istore_n (i := 2) (lv' := [(2, .int (0 : Int32)), (0, va_rf (some v0)), (1, va_rf x1)]) hx hb d_NJ_isLoose_25 rfl hl (by decide) (by simp [mx_rf_cat]) (fun ls hl => ?_)
    obtain ⟨n9, hw⟩ := hw
    exact mn_NJ_isLoose_26 C post n9 x1 (0 : Int32) _ _ _ _ hw (lv_sub hl [1, 2, 0] rfl) hR
  · have hw := hw.2 c10
    refine lv_iconst (v := 0) hx hb d_NJ_isLoose_22 (by decide) ?_
    exact mx_zret hx hb hr hlocks hR (Or.inl rfl) hw d_NJ_isLoose_23
set_option maxHeartbeats 4000000 in
set_option maxRecDepth 100000 in
theorem mt_NJ_copiesOf (l : Launch) (D : va_G) (cs : CS) (Z : Nat → Nat) (sz : Nat) {post : Int32 → HS → Prop} {h : HS} {v0 : Nat} {x1 : Int32} (hw : wp_NJ_copiesOf Z post h v0 x1) : Met l y_NJ_copiesOf (Cond.code y_NJ_copiesOf c_NJ_copiesOf 2 (some .int) :: WA) ({ frames := 5, cells := 0, slots := 0, locals := 164 } : Room) (mPc D cs Z h sz [va_rf (some v0), .int x1]) (va_Qi post (mB D cs h sz) (fA h sz)) 0 0 (fA h sz) := by
  refine mx_met (fun sz => va_Qi post (mB D cs h sz) (fA h sz)) (by decide) (by simp [lg_sl, mx_rf_cat, cat_i, cat_l]) ?_
  intro p e s m args below meth c C hR ls hl
  have hl : lv_has ls 2 [(0, va_rf (some v0)), (1, .int x1)] := hl
  obtain ⟨hx, hb, hr, hml, hown, hW, hlocks, hnm, hK, hZ⟩ := id C
  have hown : s.vm.findClass "NetJoins" = some m.cls := hown
  have hA : ∀ q, s.heap.size ≤ q → fA h s.heap.size q := fun _ h => Or.inr h
  unfold wp_NJ_copiesOf at hw
  refine lv_iload_n hx hb d_NJ_copiesOf_0 rfl (lv_at hl 1 rfl) ?_
  refine lv_if_lt (tgt := 32) hx hb d_NJ_copiesOf_1 (by decide) (fun c1 => ?_) (fun c1 => ?_)
  · have hw := hw.1 c1
    refine lv_iconst (v := 0) hx hb d_NJ_copiesOf_32 (by decide) ?_
    exact mx_iret hx hb hr hlocks hR hw d_NJ_copiesOf_33
  · have hw := hw.2 c1
    refine lv_iload_n hx hb d_NJ_copiesOf_4 rfl (lv_at hl 1 rfl) ?_
    refine mx_aload_n (r := some v0) hx hb d_NJ_copiesOf_5 rfl (lv_at hl 0 rfl) ?_
    obtain ⟨t2, hw⟩ := hw
    refine mx_get (ci := 0) (C := "NetJoins") (T := F_NJ) (N := 18) hx hb hW hown hK.1 hR (a := v0) rfl t2 rfl i_NJ 0 2 (by decide) rfl kw_120 (fun _ h9 => h9) d_NJ_copiesOf_6 ?_
    obtain ⟨a5, ea5, t6, hw⟩ := hw
    refine W.eq (g2 := F0 m 9 ls [va_rf (some a5), .int x1]) (by rw [← ea5] <;> rfl) ?_
    refine mx_calli (va_runV (b := a5) (As := []) (rest := [.int x1]) ⟨hx, hb, hml, hown, hW⟩ (mt_AL_size l D cs Z _ hw) (mx_cwV hW ok_AL_size kw_192 rfl rfl ⟨Nat.le_of_ble_eq_true rfl, Nat.le_of_ble_eq_true rfl⟩) (mx_preV hK hZ hA hR (ci := 9) rfl t6) rfl rfl hl.1 rfl (lv_room (Nat.le_of_ble_eq_true rfl)) d_NJ_copiesOf_9 ⟨Nat.le_of_ble_eq_true rfl, Nat.le_of_ble_eq_true rfl⟩) hR hA (fun r3 h4 H locs hw hR => ?_)
    try dsimp only at hw
    refine lv_icmp_ge (tgt := 32) hx hb d_NJ_copiesOf_12 (by decide) (fun c7 => ?_) (fun c7 => ?_)
    · have hw := hw.1 c7
      refine lv_iconst (v := 0) hx hb d_NJ_copiesOf_32 (by decide) ?_
      exact mx_iret hx hb hr hlocks hR hw d_NJ_copiesOf_33
    · have hw := hw.2 c7
      refine mx_aload_n (r := some v0) hx hb d_NJ_copiesOf_15 rfl (lv_at hl 0 rfl) ?_
      obtain ⟨t8, hw⟩ := hw
      refine mx_get (ci := 0) (C := "NetJoins") (T := F_NJ) (N := 18) hx hb hW hown hK.1 hR (a := v0) rfl t8 rfl i_NJ 0 2 (by decide) rfl kw_120 (fun _ h9 => h9) d_NJ_copiesOf_16 ?_
      refine lv_iload_n hx hb d_NJ_copiesOf_19 rfl (lv_at hl 1 rfl) ?_
      obtain ⟨a11, ea11, t12, hw⟩ := hw
      refine W.eq (g2 := F0 m 20 ls [.int x1, va_rf (some a11)]) (by rw [← ea11] <;> rfl) ?_
      refine mx_callr (va_runV (b := a11) (As := [.int x1]) (rest := []) ⟨hx, hb, hml, hown, hW⟩ (mt_AL_get l D cs Z _ hw) (mx_cwV hW ok_AL_get kw_196 rfl rfl ⟨Nat.le_of_ble_eq_true rfl, Nat.le_of_ble_eq_true rfl⟩) (mx_preV hK hZ hA hR (ci := 9) rfl t12) rfl rfl hl.1 rfl (lv_room (Nat.le_of_ble_eq_true rfl)) d_NJ_copiesOf_20 ⟨Nat.le_of_ble_eq_true rfl, Nat.le_of_ble_eq_true rfl⟩) hR hA (fun r9 h10 H locs hw hR => ?_)
      try dsimp only at hw
      obtain ⟨t13, hw⟩ := hw
      refine mx_cast (ci := 5) (C := "NetJoins$Sheet") (T := F_Sheet) (N := 5) hx hb hW hown hK.1 hR rfl kw_211 t13 d_NJ_copiesOf_23 ?_
      obtain ⟨a14, ea14, t15, hw⟩ := hw
      refine mx_get (ci := 5) (C := "NetJoins$Sheet") (T := F_Sheet) (N := 5) hx hb hW hown hK.1 hR (a := a14) ea14 t15 rfl i_Sheet 4 0 (by decide) rfl kw_530 (fun _ h9 => h9) d_NJ_copiesOf_26 ?_
      refine lv_goto (tgt := 33) hx hb d_NJ_copiesOf_29 (by decide) ?_
      exact mx_iret hx hb hr hlocks hR hw d_NJ_copiesOf_33
set_option maxHeartbeats 4000000 in
set_option maxRecDepth 100000 in
theorem mt_NJ_pinNode (l : Launch) (D : va_G) (cs : CS) (Z : Nat → Nat) (sz : Nat) {post : Int32 → HS → Prop} {h : HS} {x0 : Int32} {x1 : Int32} (hw : wp_NJ_pinNode Z post h x0 x1) : Met l y_NJ_pinNode (Cond.code y_NJ_pinNode c_NJ_pinNode 2 (some .int) :: WA) ({ frames := 2, cells := 0, slots := 0, locals := 100 } : Room) (mPc D cs Z h sz [.int x0, .int x1]) (va_Qi post (mB D cs h sz) (fA h sz)) 0 0 (fA h sz) := by
  refine mx_met (fun sz => va_Qi post (mB D cs h sz) (fA h sz)) (by decide) (by simp [lg_sl, mx_rf_cat, cat_i, cat_l]) ?_
  intro p e s m args below meth c C hR ls hl
  have hl : lv_has ls 2 [(0, .int x0), (1, .int x1)] := hl
  obtain ⟨hx, hb, hr, hml, hown, hW, hlocks, hnm, hK, hZ⟩ := id C
  have hown : s.vm.findClass "NetJoins" = some m.cls := hown
  have hA : ∀ q, s.heap.size ≤ q → fA h s.heap.size q := fun _ h => Or.inr h
  unfold wp_NJ_pinNode at hw
  refine lv_iload_n hx hb d_NJ_pinNode_0 rfl (lv_at hl 0 rfl) ?_
  refine lv_bipush (v := 16) hx hb d_NJ_pinNode_1 (by decide) ?_
  refine lv_imul hx hb d_NJ_pinNode_3 ?_
  refine lv_iload_n hx hb d_NJ_pinNode_4 rfl (lv_at hl 1 rfl) ?_
  refine lv_iadd hx hb d_NJ_pinNode_5 ?_
  exact mx_iret hx hb hr hlocks hR hw d_NJ_pinNode_6
set_option maxHeartbeats 4000000 in
set_option maxRecDepth 100000 in
theorem mn_NJ_isJoinedToAnother_21 {D : va_G} {cs : CS} {Z : Nat → Nat} {h0 : HS} {p : Program} {l : Launch} {e : Env} {s : State} {m : MethodId} {args : Array Value} {below : List Frame} {meth : Method} {c : Code} {v0 : Nat} (C : mC D cs Z h0 y_NJ_isJoinedToAnother c_NJ_isJoinedToAnother 4 (some .boolean) p s m args meth c) (post : Int32 → HS → Prop) : ∀ (n : Nat) (x1 : Int32) (x2 : Int32) (x3 : Int32) (h : HS) (H : Heap) (locs : List Loc) (ls : Array Slot), lpF (wb_NJ_isJoinedToAnother_21 Z post v0) n (x1, x2, x3, h) → lv_has ls 4 [(0, va_rf (some v0)), (1, .int x1), (2, .int x2), (3, .int x3)] → mR D cs (fA h0 s.heap.size) h s.heap H locs → W p l e ({ frames := 6, cells := 0, slots := 0, locals := 185 } : Room) s m args below meth c H locs 0 0 (MQ below (va_Qi post (mB D cs h0 s.heap.size) (fA h0 s.heap.size)) args s 0 0 (fA h0 s.heap.size)) (F0 m 21 ls []) := by
  obtain ⟨hx, hb, hr, hml, hown, hW, hlocks, hnm, hK, hZ⟩ := id C
  have hown : s.vm.findClass "NetJoins" = some m.cls := hown
  have hA : ∀ q, s.heap.size ≤ q → fA h0 s.heap.size q := fun _ h => Or.inr h
  intro n
  induction n with
  | zero => intro x1 x2 x3 h H locs ls hw; exact hw.elim
  | succ n ih =>
    intro x1 x2 x3 h H locs ls hw hl hR
    have hw : wb_NJ_isJoinedToAnother_21 Z post v0 (lpF (wb_NJ_isJoinedToAnother_21 Z post v0) n) (x1, x2, x3, h) := hw
    unfold wb_NJ_isJoinedToAnother_21 at hw
    dsimp only at hw
    refine lv_iload_n hx hb d_NJ_isJoinedToAnother_21 rfl (lv_at hl 3 rfl) ?_
    refine lv_iload_n hx hb d_NJ_isJoinedToAnother_22 rfl (lv_at hl 2 rfl) ?_
    refine lv_icmp_ge (tgt := 59) hx hb d_NJ_isJoinedToAnother_23 (by decide) (fun c1 => ?_) (fun c1 => ?_)
    · have hw := hw.1 c1
      refine lv_iconst (v := 0) hx hb d_NJ_isJoinedToAnother_59 (by decide) ?_
      exact mx_zret hx hb hr hlocks hR (Or.inl rfl) hw d_NJ_isJoinedToAnother_60
    · have hw := hw.2 c1
      refine mx_aload_n (r := some v0) hx hb d_NJ_isJoinedToAnother_26 rfl (lv_at hl 0 rfl) ?_
      obtain ⟨t2, hw⟩ := hw
      refine mx_get (ci := 0) (C := "NetJoins") (T := F_NJ) (N := 18) hx hb hW hown hK.1 hR (a := v0) rfl t2 rfl i_NJ 11 2 (by decide) rfl kw_131 (fun _ h9 => h9) d_NJ_isJoinedToAnother_27 ?_
      obtain ⟨a3, ea3, t4, hw⟩ := hw
      refine mx_get (ci := 3) (C := "NetJoins$NetTable") (T := F_Tab) (N := 7) hx hb hW hown hK.1 hR (a := a3) ea3 t4 rfl i_Tab 3 2 (by decide) rfl kw_99 (fun _ h9 => h9) d_NJ_isJoinedToAnother_30 ?_
      refine mx_aload_n (r := some v0) hx hb d_NJ_isJoinedToAnother_33 rfl (lv_at hl 0 rfl) ?_
      obtain ⟨t5, hw⟩ := hw
      refine mx_get (ci := 0) (C := "NetJoins") (T := F_NJ) (N := 18) hx hb hW hown hK.1 hR (a := v0) rfl t5 rfl i_NJ 11 2 (by decide) rfl kw_131 (fun _ h9 => h9) d_NJ_isJoinedToAnother_34 ?_
      obtain ⟨a6, ea6, t7, hw⟩ := hw
      refine mx_get (ci := 3) (C := "NetJoins$NetTable") (T := F_Tab) (N := 7) hx hb hW hown hK.1 hR (a := a6) ea6 t7 rfl i_Tab 2 2 (by decide) rfl kw_97 (fun _ h9 => h9) d_NJ_isJoinedToAnother_37 ?_
      refine lv_iload_n hx hb d_NJ_isJoinedToAnother_40 rfl (lv_at hl 1 rfl) ?_
      refine lv_iload_n hx hb d_NJ_isJoinedToAnother_41 rfl (lv_at hl 3 rfl) ?_
      refine mx_calli (va_runS (As := [.int x1, .int x3]) (rest := [va_rf (gR h 302 a6), va_rf (gR h 303 a3)]) ⟨hx, hb, hml, hown, hW⟩ (mt_NJ_pinNode l D cs Z _ hw) (mx_cwS hW ok_NJ_pinNode kw_283 rfl rfl ⟨Nat.le_of_ble_eq_true rfl, Nat.le_of_ble_eq_true rfl⟩) (mx_preS hK hZ hA hR) rfl rfl hl.1 rfl (lv_room (by simp [mx_rf_cat, cat_i, cat_l])) d_NJ_isJoinedToAnother_42 ⟨Nat.le_of_ble_eq_true rfl, Nat.le_of_ble_eq_true rfl⟩) hR hA (fun r8 h9 H locs hw hR => ?_)
      try dsimp only at hw
      obtain ⟨a10, ea10, t11, t11i, hw⟩ := hw
      refine mx_iald hx hb hK.1 hR (a := a10) ea10 t11 t11i d_NJ_isJoinedToAnother_45 ?_
      obtain ⟨a12, ea12, t13, t13i, hw⟩ := hw
      refine mx_iald hx hb hK.1 hR (a := a12) ea12 t13 t13i d_NJ_isJoinedToAnother_46 ?_
      refine lv_iconst (v := 1) hx hb d_NJ_isJoinedToAnother_47 (by decide) ?_
      refine lv_icmp_le (tgt := 53) hx hb d_NJ_isJoinedToAnother_48 (by decide) (fun c14 => ?_) (fun c14 => ?_)
      · have hw := hw.1 c14
        obtain ⟨y15, ey15⟩ : ∃ y : Int32, y = x3 + (1 : Int32) := ⟨_, rfl⟩
        have hw := hw y15 ey15
        refine lv_iinc (v := y15) (lv' := [(3, .int y15), (0, va_rf (some v0)), (1, .int x1), (2, .int x2)]) hx hb d_NJ_isJoinedToAnother_53 hl (k := 3) rfl (by rw [ey15]; rfl) (by decide) rfl (fun ls hl => ?_)
        refine lv_goto (tgt := 21) hx hb d_NJ_isJoinedToAnother_56 (by decide) ?_
        exact ih x1 x2 y15 _ _ _ _ hw (lv_sub hl [1, 2, 3, 0] rfl) hR
      · have hw := hw.2 c14
        refine lv_iconst (v := 1) hx hb d_NJ_isJoinedToAnother_51 (by decide) ?_
        exact mx_zret hx hb hr hlocks hR (Or.inr rfl) hw d_NJ_isJoinedToAnother_52
set_option maxHeartbeats 4000000 in
set_option maxRecDepth 100000 in
theorem mt_NJ_isJoinedToAnother (l : Launch) (D : va_G) (cs : CS) (Z : Nat → Nat) (sz : Nat) {post : Int32 → HS → Prop} {h : HS} {v0 : Nat} {x1 : Int32} (hw : wp_NJ_isJoinedToAnother Z post h v0 x1) : Met l y_NJ_isJoinedToAnother (Cond.code y_NJ_isJoinedToAnother c_NJ_isJoinedToAnother 4 (some .boolean) :: WA) ({ frames := 6, cells := 0, slots := 0, locals := 185 } : Room) (mPc D cs Z h sz [va_rf (some v0), .int x1]) (va_Qi post (mB D cs h sz) (fA h sz)) 0 0 (fA h sz) := by
  refine mx_met (fun sz => va_Qi post (mB D cs h sz) (fA h sz)) (by decide) (by simp [lg_sl, mx_rf_cat, cat_i, cat_l]) ?_
  intro p e s m args below meth c C hR ls hl
  have hl : lv_has ls 4 [(0, va_rf (some v0)), (1, .int x1)] := hl
  obtain ⟨hx, hb, hr, hml, hown, hW, hlocks, hnm, hK, hZ⟩ := id C
  have hown : s.vm.findClass "NetJoins" = some m.cls := hown
  have hA : ∀ q, s.heap.size ≤ q → fA h s.heap.size q := fun _ h => Or.inr h
  unfold wp_NJ_isJoinedToAnother at hw
  refine mx_aload_n (r := some v0) hx hb d_NJ_isJoinedToAnother_0 rfl (lv_at hl 0 rfl) ?_
  refine mx_aload_n (r := some v0) hx hb d_NJ_isJoinedToAnother_1 rfl (lv_at hl 0 rfl) ?_
  obtain ⟨t1, hw⟩ := hw
  refine mx_get (ci := 0) (C := "NetJoins") (T := F_NJ) (N := 18) hx hb hW hown hK.1 hR (a := v0) rfl t1 rfl i_NJ 5 2 (by decide) rfl kw_125 (fun _ h9 => h9) d_NJ_isJoinedToAnother_2 ?_
  refine lv_iload_n hx hb d_NJ_isJoinedToAnother_5 rfl (lv_at hl 1 rfl) ?_
  obtain ⟨a4, ea4, t5, hw⟩ := hw
  refine W.eq (g2 := F0 m 6 ls [.int x1, va_rf (some a4), va_rf (some v0)]) (by rw [← ea4] <;> rfl) ?_
  refine mx_callr (va_runV (b := a4) (As := [.int x1]) (rest := [va_rf (some v0)]) ⟨hx, hb, hml, hown, hW⟩ (mt_AL_get l D cs Z _ hw) (mx_cwV hW ok_AL_get kw_196 rfl rfl ⟨Nat.le_of_ble_eq_true rfl, Nat.le_of_ble_eq_true rfl⟩) (mx_preV hK hZ hA hR (ci := 9) rfl t5) rfl rfl hl.1 rfl (lv_room (Nat.le_of_ble_eq_true rfl)) d_NJ_isJoinedToAnother_6 ⟨Nat.le_of_ble_eq_true rfl, Nat.le_of_ble_eq_true rfl⟩) hR hA (fun r2 h3 H locs hw hR => ?_)
  try dsimp only at hw
  obtain ⟨t6, hw⟩ := hw
  refine mx_cast (ci := 6) (C := "NetJoins$Spot") (T := F_Spot) (N := 6) hx hb hW hown hK.1 hR rfl kw_210 t6 d_NJ_isJoinedToAnother_9 ?_
  obtain ⟨a7, ea7, t8, hw⟩ := hw
  refine mx_get (ci := 6) (C := "NetJoins$Spot") (T := F_Spot) (N := 6) hx hb hW hown hK.1 hR (a := a7) ea7 t8 rfl i_Spot 0 0 (by decide) rfl kw_700 (fun _ h9 => h9) d_NJ_isJoinedToAnother_12 ?_
  obtain ⟨t11, hw⟩ := hw
  refine mx_calli (va_runV (b := v0) (As := [.int (gI h3 600 a7)]) (rest := []) ⟨hx, hb, hml, hown, hW⟩ (mt_NJ_copiesOf l D cs Z _ hw) (mx_cwV hW ok_NJ_copiesOf kw_279 rfl rfl ⟨Nat.le_of_ble_eq_true rfl, Nat.le_of_ble_eq_true rfl⟩) (mx_preV hK hZ hA hR (ci := 0) rfl t11) rfl rfl hl.1 rfl (lv_room (Nat.le_of_ble_eq_true rfl)) d_NJ_isJoinedToAnother_15 ⟨Nat.le_of_ble_eq_true rfl, Nat.le_of_ble_eq_true rfl⟩) hR hA (fun r9 h10 H locs hw hR => ?_)
  try dsimp only at hw
  refine lv_istore_n (i := 2) (lv' := [(2, .int r9), (0, va_rf (some v0)), (1, .int x1)]) hx hb d_NJ_isJoinedToAnother_18 rfl hl (by decide) rfl (fun ls hl => ?_)
  refine lv_iconst (v := 0) hx hb d_NJ_isJoinedToAnother_19 (by decide) ?_
  refine lv_istore_n (i := 3) (lv' := [(3, .int (0 : Int32)), (2, .int r9), (0, va_rf (some v0)), (1, .int x1)]) hx hb d_NJ_isJoinedToAnother_20 rfl hl (by decide) rfl (fun ls hl => ?_)
  obtain ⟨n9, hw⟩ := hw
  exact mn_NJ_isJoinedToAnother_21 C post n9 x1 r9 (0 : Int32) _ _ _ _ hw (lv_sub hl [2, 3, 1, 0] rfl) hR
set_option maxHeartbeats 4000000 in
set_option maxRecDepth 100000 in
theorem mn_NJ_listRemarks_134 {D : va_G} {cs : CS} {Z : Nat → Nat} {h0 : HS} {p : Program} {l : Launch} {e : Env} {s : State} {m : MethodId} {args : Array Value} {below : List Frame} {meth : Method} {c : Code} {v0 : Nat} (C : mC D cs Z h0 y_NJ_listRemarks c_NJ_listRemarks 2 none p s m args meth c) (post : HS → Prop) (K89 : Int32 × HS → Prop) (hK89 : ∀ (x1 : Int32) (h : HS) (H : Heap) (locs : List Loc) (ls : Array Slot), K89 (x1, h) → lv_has ls 2 [(0, va_rf (some v0)), (1, .int x1)] → mR D cs (fA h0 s.heap.size) h s.heap H locs → W p l e ({ frames := 7, cells := 0, slots := 0, locals := 212 } : Room) s m args below meth c H locs 0 0 (MQ below (va_Qv post (mB D cs h0 s.heap.size) (fA h0 s.heap.size)) args s 0 0 (fA h0 s.heap.size)) (F0 m 89 ls [])) : ∀ (x1 : Int32) (h : HS) (H : Heap) (locs : List Loc) (ls : Array Slot), wj_NJ_listRemarks_134 Z post K89 v0 x1 h → lv_has ls 2 [(0, va_rf (some v0)), (1, .int x1)] → mR D cs (fA h0 s.heap.size) h s.heap H locs → W p l e ({ frames := 7, cells := 0, slots := 0, locals := 212 } : Room) s m args below meth c H locs 0 0 (MQ below (va_Qv post (mB D cs h0 s.heap.size) (fA h0 s.heap.size)) args s 0 0 (fA h0 s.heap.size)) (F0 m 134 ls []) := by
  obtain ⟨hx, hb, hr, hml, hown, hW, hlocks, hnm, hK, hZ⟩ := id C
  have hown : s.vm.findClass "NetJoins" = some m.cls := hown
  have hA : ∀ q, s.heap.size ≤ q → fA h0 s.heap.size q := fun _ h => Or.inr h
  intro x1 h H locs ls hw hl hR
  unfold wj_NJ_listRemarks_134 at hw
  obtain ⟨y1, ey1⟩ : ∃ y : Int32, y = x1 + (1 : Int32) := ⟨_, rfl⟩
  have hw := hw y1 ey1
  refine lv_iinc (v := y1) (lv' := [(1, .int y1), (0, va_rf (some v0))]) hx hb d_NJ_listRemarks_134 hl (k := 1) rfl (by rw [ey1]; rfl) (by decide) rfl (fun ls hl => ?_)
  refine lv_goto (tgt := 89) hx hb d_NJ_listRemarks_137 (by decide) ?_
  exact hK89 y1 _ _ _ _ hw (lv_sub hl [1, 0] rfl) hR
set_option maxHeartbeats 4000000 in
set_option maxRecDepth 100000 in
theorem mn_NJ_listRemarks_89 {D : va_G} {cs : CS} {Z : Nat → Nat} {h0 : HS} {p : Program} {l : Launch} {e : Env} {s : State} {m : MethodId} {args : Array Value} {below : List Frame} {meth : Method} {c : Code} {v0 : Nat} (C : mC D cs Z h0 y_NJ_listRemarks c_NJ_listRemarks 2 none p s m args meth c) (post : HS → Prop) : ∀ (n : Nat) (x1 : Int32) (h : HS) (H : Heap) (locs : List Loc) (ls : Array Slot), lpF (wb_NJ_listRemarks_89 Z post v0) n (x1, h) → lv_has ls 2 [(0, va_rf (some v0)), (1, .int x1)] → mR D cs (fA h0 s.heap.size) h s.heap H locs → W p l e ({ frames := 7, cells := 0, slots := 0, locals := 212 } : Room) s m args below meth c H locs 0 0 (MQ below (va_Qv post (mB D cs h0 s.heap.size) (fA h0 s.heap.size)) args s 0 0 (fA h0 s.heap.size)) (F0 m 89 ls []) := by
  obtain ⟨hx, hb, hr, hml, hown, hW, hlocks, hnm, hK, hZ⟩ := id C
  have hown : s.vm.findClass "NetJoins" = some m.cls := hown
  have hA : ∀ q, s.heap.size ≤ q → fA h0 s.heap.size q := fun _ h => Or.inr h
  intro n
  induction n with
  | zero => intro x1 h H locs ls hw; exact hw.elim
  | succ n ih =>
    intro x1 h H locs ls hw hl hR
    have hw : wb_NJ_listRemarks_89 Z post v0 (lpF (wb_NJ_listRemarks_89 Z post v0) n) (x1, h) := hw
    unfold wb_NJ_listRemarks_89 at hw
    dsimp only at hw
    refine lv_iload_n hx hb d_NJ_listRemarks_89 rfl (lv_at hl 1 rfl) ?_
    refine mx_aload_n (r := some v0) hx hb d_NJ_listRemarks_90 rfl (lv_at hl 0 rfl) ?_
    obtain ⟨t1, hw⟩ := hw
    refine mx_get (ci := 0) (C := "NetJoins") (T := F_NJ) (N := 18) hx hb hW hown hK.1 hR (a := v0) rfl t1 rfl i_NJ 5 2 (by decide) rfl kw_125 (fun _ h9 => h9) d_NJ_listRemarks_91 ?_
    obtain ⟨a4, ea4, t5, hw⟩ := hw
    refine W.eq (g2 := F0 m 94 ls [va_rf (some a4), .int x1]) (by rw [← ea4] <;> rfl) ?_
    refine mx_calli (va_runV (b := a4) (As := []) (rest := [.int x1]) ⟨hx, hb, hml, hown, hW⟩ (mt_AL_size l D cs Z _ hw) (mx_cwV hW ok_AL_size kw_192 rfl rfl ⟨Nat.le_of_ble_eq_true rfl, Nat.le_of_ble_eq_true rfl⟩) (mx_preV hK hZ hA hR (ci := 9) rfl t5) rfl rfl hl.1 rfl (lv_room (Nat.le_of_ble_eq_true rfl)) d_NJ_listRemarks_94 ⟨Nat.le_of_ble_eq_true rfl, Nat.le_of_ble_eq_true rfl⟩) hR hA (fun r2 h3 H locs hw hR => ?_)
    try dsimp only at hw
    refine lv_icmp_ge (tgt := 140) hx hb d_NJ_listRemarks_97 (by decide) (fun c6 => ?_) (fun c6 => ?_)
    · have hw := hw.1 c6
      refine mx_aload_n (r := some v0) hx hb d_NJ_listRemarks_140 rfl (lv_at hl 0 rfl) ?_
      refine lv_iconst (v := 1) hx hb d_NJ_listRemarks_141 (by decide) ?_
      obtain ⟨t7, hw⟩ := hw
      obtain ⟨z8, hw⟩ := hw
      refine mx_put (ci := 0) (C := "NetJoins") (T := F_NJ) (N := 18) (v := .int (1 : Int32)) (h' := sI h3 17 v0 (1 : Int32)) hx hb hW hown hK.1 hR (a := v0) rfl t7 rfl i_NJ t_NJ t_NJ_ok n_NJ 17 0 (by decide) rfl kw_137 (fun _ h9 => h9) rfl (mx_z_n z8).1 (mx_z_n z8).2 d_NJ_listRemarks_142 rfl (toE_sI (ci := 0) (k := 17) t7 rfl) (fun H locs hR => ?_)
      obtain ⟨h9, eh9⟩ : ∃ z, z = sI h3 17 v0 (1 : Int32) := ⟨_, rfl⟩
      rw [← eh9] at hR
      have hw := hw h9 eh9
      exact mx_vret hx hb hr hlocks hR hw d_NJ_listRemarks_145
    · have hw := hw.2 c6
      refine mx_aload_n (r := some v0) hx hb d_NJ_listRemarks_100 rfl (lv_at hl 0 rfl) ?_
      obtain ⟨t10, hw⟩ := hw
      refine mx_get (ci := 0) (C := "NetJoins") (T := F_NJ) (N := 18) hx hb hW hown hK.1 hR (a := v0) rfl t10 rfl i_NJ 5 2 (by decide) rfl kw_125 (fun _ h9 => h9) d_NJ_listRemarks_101 ?_
      refine lv_iload_n hx hb d_NJ_listRemarks_104 rfl (lv_at hl 1 rfl) ?_
      obtain ⟨a13, ea13, t14, hw⟩ := hw
      refine W.eq (g2 := F0 m 105 ls [.int x1, va_rf (some a13)]) (by rw [← ea13] <;> rfl) ?_
      refine mx_callr (va_runV (b := a13) (As := [.int x1]) (rest := []) ⟨hx, hb, hml, hown, hW⟩ (mt_AL_get l D cs Z _ hw) (mx_cwV hW ok_AL_get kw_196 rfl rfl ⟨Nat.le_of_ble_eq_true rfl, Nat.le_of_ble_eq_true rfl⟩) (mx_preV hK hZ hA hR (ci := 9) rfl t14) rfl rfl hl.1 rfl (lv_room (Nat.le_of_ble_eq_true rfl)) d_NJ_listRemarks_105 ⟨Nat.le_of_ble_eq_true rfl, Nat.le_of_ble_eq_true rfl⟩) hR hA (fun r11 h12 H locs hw hR => ?_)
      try dsimp only at hw
      obtain ⟨t15, hw⟩ := hw
      refine mx_cast (ci := 6) (C := "NetJoins$Spot") (T := F_Spot) (N := 6) hx hb hW hown hK.1 hR rfl kw_210 t15 d_NJ_listRemarks_108 ?_
      obtain ⟨a16, ea16, t17, hw⟩ := hw
      refine mx_get (ci := 6) (C := "NetJoins$Spot") (T := F_Spot) (N := 6) hx hb hW hown hK.1 hR (a := a16) ea16 t17 rfl i_Spot 5 0 (by decide) rfl kw_711 (fun _ h9 => h9) d_NJ_listRemarks_111 ?_
      refine lv_if_eq (tgt := 134) hx hb d_NJ_listRemarks_114 (by decide) (fun c18 => ?_) (fun c18 => ?_)
      · have hw := hw.1 c18
        exact mn_NJ_listRemarks_134 C post (lpF (wb_NJ_listRemarks_89 Z post v0) n) ih x1 _ _ _ _ hw (lv_sub hl [0, 1] rfl) hR
      · have hw := hw.2 c18
        refine mx_aload_n (r := some v0) hx hb d_NJ_listRemarks_117 rfl (lv_at hl 0 rfl) ?_
        refine lv_iload_n hx hb d_NJ_listRemarks_118 rfl (lv_at hl 1 rfl) ?_
        obtain ⟨t21, hw⟩ := hw
        refine mx_calli (va_runV (b := v0) (As := [.int x1]) (rest := []) ⟨hx, hb, hml, hown, hW⟩ (mt_NJ_isJoinedToAnother l D cs Z _ hw) (mx_cwV hW ok_NJ_isJoinedToAnother kw_275 rfl rfl ⟨Nat.le_of_ble_eq_true rfl, Nat.le_of_ble_eq_true rfl⟩) (mx_preV hK hZ hA hR (ci := 0) rfl t21) rfl rfl hl.1 rfl (lv_room (Nat.le_of_ble_eq_true rfl)) d_NJ_listRemarks_119 ⟨Nat.le_of_ble_eq_true rfl, Nat.le_of_ble_eq_true rfl⟩) hR hA (fun r19 h20 H locs hw hR => ?_)
        try dsimp only at hw
        refine lv_if_eq (tgt := 134) hx hb d_NJ_listRemarks_122 (by decide) (fun c22 => ?_) (fun c22 => ?_)
        · have hw := hw.1 c22
          exact mn_NJ_listRemarks_134 C post (lpF (wb_NJ_listRemarks_89 Z post v0) n) ih x1 _ _ _ _ hw (lv_sub hl [0, 1] rfl) hR
        · have hw := hw.2 c22
          refine mx_aload_n (r := some v0) hx hb d_NJ_listRemarks_125 rfl (lv_at hl 0 rfl) ?_
          refine lv_ldcw hx hb hown (hW _ kw_286) d_NJ_listRemarks_126 ?_
          refine lv_iload_n hx hb d_NJ_listRemarks_129 rfl (lv_at hl 1 rfl) ?_
          refine lv_iadd hx hb d_NJ_listRemarks_130 ?_
          obtain ⟨t25, hw⟩ := hw
          refine mx_callv (va_runV (b := v0) (As := [.int ((200000000 : Int32) + x1)]) (rest := []) ⟨hx, hb, hml, hown, hW⟩ (mt_NJ_remark l D cs Z _ hw) (mx_cwV hW ok_NJ_remark kw_244 rfl rfl ⟨Nat.le_of_ble_eq_true rfl, Nat.le_of_ble_eq_true rfl⟩) (mx_preV hK hZ hA hR (ci := 0) rfl t25) rfl rfl hl.1 rfl (lv_room (Nat.le_of_ble_eq_true rfl)) d_NJ_listRemarks_131 ⟨Nat.le_of_ble_eq_true rfl, Nat.le_of_ble_eq_true rfl⟩) hR hA (fun h24 H locs hw hR => ?_)
          try dsimp only at hw
          exact mn_NJ_listRemarks_134 C post (lpF (wb_NJ_listRemarks_89 Z post v0) n) ih x1 _ _ _ _ hw (lv_sub hl [0, 1] rfl) hR
set_option maxHeartbeats 4000000 in
set_option maxRecDepth 100000 in
theorem mn_NJ_listRemarks_81 {D : va_G} {cs : CS} {Z : Nat → Nat} {h0 : HS} {p : Program} {l : Launch} {e : Env} {s : State} {m : MethodId} {args : Array Value} {below : List Frame} {meth : Method} {c : Code} {v0 : Nat} (C : mC D cs Z h0 y_NJ_listRemarks c_NJ_listRemarks 2 none p s m args meth c) (post : HS → Prop) (K43 : Int32 × HS → Prop) (hK43 : ∀ (x1 : Int32) (h : HS) (H : Heap) (locs : List Loc) (ls : Array Slot), K43 (x1, h) → lv_has ls 2 [(0, va_rf (some v0)), (1, .int x1)] → mR D cs (fA h0 s.heap.size) h s.heap H locs → W p l e ({ frames := 7, cells := 0, slots := 0, locals := 212 } : Room) s m args below meth c H locs 0 0 (MQ below (va_Qv post (mB D cs h0 s.heap.size) (fA h0 s.heap.size)) args s 0 0 (fA h0 s.heap.size)) (F0 m 43 ls [])) : ∀ (x1 : Int32) (h : HS) (H : Heap) (locs : List Loc) (ls : Array Slot), wj_NJ_listRemarks_81 Z post K43 v0 x1 h → lv_has ls 2 [(0, va_rf (some v0)), (1, .int x1)] → mR D cs (fA h0 s.heap.size) h s.heap H locs → W p l e ({ frames := 7, cells := 0, slots := 0, locals := 212 } : Room) s m args below meth c H locs 0 0 (MQ below (va_Qv post (mB D cs h0 s.heap.size) (fA h0 s.heap.size)) args s 0 0 (fA h0 s.heap.size)) (F0 m 81 ls []) := by
  obtain ⟨hx, hb, hr, hml, hown, hW, hlocks, hnm, hK, hZ⟩ := id C
  have hown : s.vm.findClass "NetJoins" = some m.cls := hown
  have hA : ∀ q, s.heap.size ≤ q → fA h0 s.heap.size q := fun _ h => Or.inr h
  intro x1 h H locs ls hw hl hR
  unfold wj_NJ_listRemarks_81 at hw
  obtain ⟨y1, ey1⟩ : ∃ y : Int32, y = x1 + (1 : Int32) := ⟨_, rfl⟩
  have hw := hw y1 ey1
  refine lv_iinc (v := y1) (lv' := [(1, .int y1), (0, va_rf (some v0))]) hx hb d_NJ_listRemarks_81 hl (k := 1) rfl (by rw [ey1]; rfl) (by decide) rfl (fun ls hl => ?_)
  refine lv_goto (tgt := 43) hx hb d_NJ_listRemarks_84 (by decide) ?_
  exact hK43 y1 _ _ _ _ hw (lv_sub hl [1, 0] rfl) hR
set_option maxHeartbeats 4000000 in
set_option maxRecDepth 100000 in
theorem mn_NJ_listRemarks_43 {D : va_G} {cs : CS} {Z : Nat → Nat} {h0 : HS} {p : Program} {l : Launch} {e : Env} {s : State} {m : MethodId} {args : Array Value} {below : List Frame} {meth : Method} {c : Code} {v0 : Nat} (C : mC D cs Z h0 y_NJ_listRemarks c_NJ_listRemarks 2 none p s m args meth c) (post : HS → Prop) : ∀ (n : Nat) (x1 : Int32) (h : HS) (H : Heap) (locs : List Loc) (ls : Array Slot), lpF (wb_NJ_listRemarks_43 Z post v0) n (x1, h) → lv_has ls 2 [(0, va_rf (some v0)), (1, .int x1)] → mR D cs (fA h0 s.heap.size) h s.heap H locs → W p l e ({ frames := 7, cells := 0, slots := 0, locals := 212 } : Room) s m args below meth c H locs 0 0 (MQ below (va_Qv post (mB D cs h0 s.heap.size) (fA h0 s.heap.size)) args s 0 0 (fA h0 s.heap.size)) (F0 m 43 ls []) := by
  obtain ⟨hx, hb, hr, hml, hown, hW, hlocks, hnm, hK, hZ⟩ := id C
  have hown : s.vm.findClass "NetJoins" = some m.cls := hown
  have hA : ∀ q, s.heap.size ≤ q → fA h0 s.heap.size q := fun _ h => Or.inr h
  intro n
  induction n with
  | zero => intro x1 h H locs ls hw; exact hw.elim
  | succ n ih =>
    intro x1 h H locs ls hw hl hR
    have hw : wb_NJ_listRemarks_43 Z post v0 (lpF (wb_NJ_listRemarks_43 Z post v0) n) (x1, h) := hw
    unfold wb_NJ_listRemarks_43 at hw
    dsimp only at hw
    refine lv_iload_n hx hb d_NJ_listRemarks_43 rfl (lv_at hl 1 rfl) ?_
    refine mx_aload_n (r := some v0) hx hb d_NJ_listRemarks_44 rfl (lv_at hl 0 rfl) ?_
    obtain ⟨t1, hw⟩ := hw
    refine mx_get (ci := 0) (C := "NetJoins") (T := F_NJ) (N := 18) hx hb hW hown hK.1 hR (a := v0) rfl t1 rfl i_NJ 3 2 (by decide) rfl kw_123 (fun _ h9 => h9) d_NJ_listRemarks_45 ?_
    obtain ⟨a4, ea4, t5, hw⟩ := hw
    refine W.eq (g2 := F0 m 48 ls [va_rf (some a4), .int x1]) (by rw [← ea4] <;> rfl) ?_
    refine mx_calli (va_runV (b := a4) (As := []) (rest := [.int x1]) ⟨hx, hb, hml, hown, hW⟩ (mt_AL_size l D cs Z _ hw) (mx_cwV hW ok_AL_size kw_192 rfl rfl ⟨Nat.le_of_ble_eq_true rfl, Nat.le_of_ble_eq_true rfl⟩) (mx_preV hK hZ hA hR (ci := 9) rfl t5) rfl rfl hl.1 rfl (lv_room (Nat.le_of_ble_eq_true rfl)) d_NJ_listRemarks_48 ⟨Nat.le_of_ble_eq_true rfl, Nat.le_of_ble_eq_true rfl⟩) hR hA (fun r2 h3 H locs hw hR => ?_)
    try dsimp only at hw
    refine lv_icmp_ge (tgt := 87) hx hb d_NJ_listRemarks_51 (by decide) (fun c6 => ?_) (fun c6 => ?_)
    · have hw := hw.1 c6
      refine lv_iconst (v := 0) hx hb d_NJ_listRemarks_87 (by decide) ?_
      refine lv_istore_n (i := 1) (lv' := [(1, .int (0 : Int32)), (0, va_rf (some v0))]) hx hb d_NJ_listRemarks_88 rfl hl (by decide) rfl (fun ls hl => ?_)
      obtain ⟨n9, hw⟩ := hw
      exact mn_NJ_listRemarks_89 C post n9 (0 : Int32) _ _ _ _ hw (lv_sub hl [1, 0] rfl) hR
    · have hw := hw.2 c6
      refine mx_aload_n (r := some v0) hx hb d_NJ_listRemarks_54 rfl (lv_at hl 0 rfl) ?_
      refine mx_aload_n (r := some v0) hx hb d_NJ_listRemarks_55 rfl (lv_at hl 0 rfl) ?_
      obtain ⟨t7, hw⟩ := hw
      refine mx_get (ci := 0) (C := "NetJoins") (T := F_NJ) (N := 18) hx hb hW hown hK.1 hR (a := v0) rfl t7 rfl i_NJ 3 2 (by decide) rfl kw_123 (fun _ h9 => h9) d_NJ_listRemarks_56 ?_
      refine lv_iload_n hx hb d_NJ_listRemarks_59 rfl (lv_at hl 1 rfl) ?_
      obtain ⟨a10, ea10, t11, hw⟩ := hw
      refine W.eq (g2 := F0 m 60 ls [.int x1, va_rf (some a10), va_rf (some v0)]) (by rw [← ea10] <;> rfl) ?_
      refine mx_callr (va_runV (b := a10) (As := [.int x1]) (rest := [va_rf (some v0)]) ⟨hx, hb, hml, hown, hW⟩ (mt_AL_get l D cs Z _ hw) (mx_cwV hW ok_AL_get kw_196 rfl rfl ⟨Nat.le_of_ble_eq_true rfl, Nat.le_of_ble_eq_true rfl⟩) (mx_preV hK hZ hA hR (ci := 9) rfl t11) rfl rfl hl.1 rfl (lv_room (Nat.le_of_ble_eq_true rfl)) d_NJ_listRemarks_60 ⟨Nat.le_of_ble_eq_true rfl, Nat.le_of_ble_eq_true rfl⟩) hR hA (fun r8 h9 H locs hw hR => ?_)
      try dsimp only at hw
      obtain ⟨t12, hw⟩ := hw
      refine mx_cast (ci := 6) (C := "NetJoins$Spot") (T := F_Spot) (N := 6) hx hb hW hown hK.1 hR rfl kw_210 t12 d_NJ_listRemarks_63 ?_
      obtain ⟨t15, hw⟩ := hw
      refine mx_calli (va_runV (b := v0) (As := [va_rf r8]) (rest := []) ⟨hx, hb, hml, hown, hW⟩ (mt_NJ_isLoose l D cs Z _ hw) (mx_cwV hW ok_NJ_isLoose kw_248 rfl rfl ⟨Nat.le_of_ble_eq_true rfl, Nat.le_of_ble_eq_true rfl⟩) (mx_preV hK hZ hA hR (ci := 0) rfl t15) rfl rfl hl.1 rfl (lv_room (Nat.le_of_ble_eq_true rfl)) d_NJ_listRemarks_66 ⟨Nat.le_of_ble_eq_true rfl, Nat.le_of_ble_eq_true rfl⟩) hR hA (fun r13 h14 H locs hw hR => ?_)
      try dsimp only at hw
      refine lv_if_eq (tgt := 81) hx hb d_NJ_listRemarks_69 (by decide) (fun c16 => ?_) (fun c16 => ?_)
      · have hw := hw.1 c16
        exact mn_NJ_listRemarks_81 C post (lpF (wb_NJ_listRemarks_43 Z post v0) n) ih x1 _ _ _ _ hw (lv_sub hl [0, 1] rfl) hR
      · have hw := hw.2 c16
        refine mx_aload_n (r := some v0) hx hb d_NJ_listRemarks_72 rfl (lv_at hl 0 rfl) ?_
        refine lv_ldcw hx hb hown (hW _ kw_274) d_NJ_listRemarks_73 ?_
        refine lv_iload_n hx hb d_NJ_listRemarks_76 rfl (lv_at hl 1 rfl) ?_
        refine lv_iadd hx hb d_NJ_listRemarks_77 ?_
        obtain ⟨t19, hw⟩ := hw
        refine mx_callv (va_runV (b := v0) (As := [.int ((100000000 : Int32) + x1)]) (rest := []) ⟨hx, hb, hml, hown, hW⟩ (mt_NJ_remark l D cs Z _ hw) (mx_cwV hW ok_NJ_remark kw_244 rfl rfl ⟨Nat.le_of_ble_eq_true rfl, Nat.le_of_ble_eq_true rfl⟩) (mx_preV hK hZ hA hR (ci := 0) rfl t19) rfl rfl hl.1 rfl (lv_room (Nat.le_of_ble_eq_true rfl)) d_NJ_listRemarks_78 ⟨Nat.le_of_ble_eq_true rfl, Nat.le_of_ble_eq_true rfl⟩) hR hA (fun h18 H locs hw hR => ?_)
        try dsimp only at hw
        exact mn_NJ_listRemarks_81 C post (lpF (wb_NJ_listRemarks_43 Z post v0) n) ih x1 _ _ _ _ hw (lv_sub hl [0, 1] rfl) hR
set_option maxHeartbeats 4000000 in
set_option maxRecDepth 100000 in
theorem mn_NJ_listRemarks_19 {D : va_G} {cs : CS} {Z : Nat → Nat} {h0 : HS} {p : Program} {l : Launch} {e : Env} {s : State} {m : MethodId} {args : Array Value} {below : List Frame} {meth : Method} {c : Code} {v0 : Nat} (C : mC D cs Z h0 y_NJ_listRemarks c_NJ_listRemarks 2 none p s m args meth c) (post : HS → Prop) : ∀ (n : Nat) (x1 : Int32) (h : HS) (H : Heap) (locs : List Loc) (ls : Array Slot), lpF (wb_NJ_listRemarks_19 Z post v0) n (x1, h) → lv_has ls 2 [(0, va_rf (some v0)), (1, .int x1)] → mR D cs (fA h0 s.heap.size) h s.heap H locs → W p l e ({ frames := 7, cells := 0, slots := 0, locals := 212 } : Room) s m args below meth c H locs 0 0 (MQ below (va_Qv post (mB D cs h0 s.heap.size) (fA h0 s.heap.size)) args s 0 0 (fA h0 s.heap.size)) (F0 m 19 ls []) := by
  obtain ⟨hx, hb, hr, hml, hown, hW, hlocks, hnm, hK, hZ⟩ := id C
  have hown : s.vm.findClass "NetJoins" = some m.cls := hown
  have hA : ∀ q, s.heap.size ≤ q → fA h0 s.heap.size q := fun _ h => Or.inr h
  intro n
  induction n with
  | zero => intro x1 h H locs ls hw; exact hw.elim
  | succ n ih =>
    intro x1 h H locs ls hw hl hR
    have hw : wb_NJ_listRemarks_19 Z post v0 (lpF (wb_NJ_listRemarks_19 Z post v0) n) (x1, h) := hw
    unfold wb_NJ_listRemarks_19 at hw
    dsimp only at hw
    refine lv_iload_n hx hb d_NJ_listRemarks_19 rfl (lv_at hl 1 rfl) ?_
    refine mx_aload_n (r := some v0) hx hb d_NJ_listRemarks_20 rfl (lv_at hl 0 rfl) ?_
    obtain ⟨t1, hw⟩ := hw
    refine mx_get (ci := 0) (C := "NetJoins") (T := F_NJ) (N := 18) hx hb hW hown hK.1 hR (a := v0) rfl t1 rfl i_NJ 11 2 (by decide) rfl kw_131 (fun _ h9 => h9) d_NJ_listRemarks_21 ?_
    obtain ⟨a2, ea2, t3, hw⟩ := hw
    refine mx_get (ci := 3) (C := "NetJoins$NetTable") (T := F_Tab) (N := 7) hx hb hW hown hK.1 hR (a := a2) ea2 t3 rfl i_Tab 5 0 (by decide) rfl kw_102 (fun _ h9 => h9) d_NJ_listRemarks_24 ?_
    refine lv_icmp_ge (tgt := 41) hx hb d_NJ_listRemarks_27 (by decide) (fun c4 => ?_) (fun c4 => ?_)
    · have hw := hw.1 c4
      refine lv_iconst (v := 0) hx hb d_NJ_listRemarks_41 (by decide) ?_
      refine lv_istore_n (i := 1) (lv' := [(1, .int (0 : Int32)), (0, va_rf (some v0))]) hx hb d_NJ_listRemarks_42 rfl hl (by decide) rfl (fun ls hl => ?_)
      obtain ⟨n9, hw⟩ := hw
      exact mn_NJ_listRemarks_43 C post n9 (0 : Int32) _ _ _ _ hw (lv_sub hl [1, 0] rfl) hR
    · have hw := hw.2 c4
      refine mx_aload_n (r := some v0) hx hb d_NJ_listRemarks_30 rfl (lv_at hl 0 rfl) ?_
      refine lv_iload_n hx hb d_NJ_listRemarks_31 rfl (lv_at hl 1 rfl) ?_
      obtain ⟨t7, hw⟩ := hw
      refine mx_callv (va_runV (b := v0) (As := [.int x1]) (rest := []) ⟨hx, hb, hml, hown, hW⟩ (mt_NJ_remarkOtherNames l D cs Z _ hw) (mx_cwV hW ok_NJ_remarkOtherNames kw_236 rfl rfl ⟨Nat.le_of_ble_eq_true rfl, Nat.le_of_ble_eq_true rfl⟩) (mx_preV hK hZ hA hR (ci := 0) rfl t7) rfl rfl hl.1 rfl (lv_room (Nat.le_of_ble_eq_true rfl)) d_NJ_listRemarks_32 ⟨Nat.le_of_ble_eq_true rfl, Nat.le_of_ble_eq_true rfl⟩) hR hA (fun h6 H locs hw hR => ?_)
      try dsimp only at hw
      obtain ⟨y8, ey8⟩ : ∃ y : Int32, y = x1 + (1 : Int32) := ⟨_, rfl⟩
      have hw := hw y8 ey8
      refine lv_iinc (v := y8) (lv' := [(1, .int y8), (0, va_rf (some v0))]) hx hb d_NJ_listRemarks_35 hl (k := 1) rfl (by rw [ey8]; rfl) (by decide) rfl (fun ls hl => ?_)
      refine lv_goto (tgt := 19) hx hb d_NJ_listRemarks_38 (by decide) ?_
      exact ih y8 _ _ _ _ hw (lv_sub hl [1, 0] rfl) hR
set_option maxHeartbeats 4000000 in
set_option maxRecDepth 100000 in
theorem mt_NJ_listRemarks (l : Launch) (D : va_G) (cs : CS) (Z : Nat → Nat) (sz : Nat) {post : HS → Prop} {h : HS} {v0 : Nat}  (hw : wp_NJ_listRemarks Z post h v0 ) : Met l y_NJ_listRemarks (Cond.code y_NJ_listRemarks c_NJ_listRemarks 2 none :: WA) ({ frames := 7, cells := 0, slots := 0, locals := 212 } : Room) (mPc D cs Z h sz [va_rf (some v0)]) (va_Qv post (mB D cs h sz) (fA h sz)) 0 0 (fA h sz) := by
  refine mx_met (fun sz => va_Qv post (mB D cs h sz) (fA h sz)) (by decide) (by simp [lg_sl, mx_rf_cat, cat_i, cat_l]) ?_
  intro p e s m args below meth c C hR ls hl
  have hl : lv_has ls 2 [(0, va_rf (some v0))] := hl
  obtain ⟨hx, hb, hr, hml, hown, hW, hlocks, hnm, hK, hZ⟩ := id C
  have hown : s.vm.findClass "NetJoins" = some m.cls := hown
  have hA : ∀ q, s.heap.size ≤ q → fA h s.heap.size q := fun _ h => Or.inr h
  unfold wp_NJ_listRemarks at hw
  refine mx_aload_n (r := some v0) hx hb d_NJ_listRemarks_0 rfl (lv_at hl 0 rfl) ?_
  obtain ⟨t1, hw⟩ := hw
  refine mx_get (ci := 0) (C := "NetJoins") (T := F_NJ) (N := 18) hx hb hW hown hK.1 hR (a := v0) rfl t1 rfl i_NJ 17 0 (by decide) rfl kw_137 (fun _ h9 => h9) d_NJ_listRemarks_1 ?_
  refine lv_if_eq (tgt := 8) hx hb d_NJ_listRemarks_4 (by decide) (fun c2 => ?_) (fun c2 => ?_)
  · have hw := hw.1 c2
    refine mx_aload_n (r := some v0) hx hb d_NJ_listRemarks_8 rfl (lv_at hl 0 rfl) ?_
    obtain ⟨t5, hw⟩ := hw
    refine mx_callv (va_runV (b := v0) (As := []) (rest := []) ⟨hx, hb, hml, hown, hW⟩ (mt_NJ_listNames l D cs Z _ hw) (mx_cwV hW ok_NJ_listNames kw_187 rfl rfl ⟨Nat.le_of_ble_eq_true rfl, Nat.le_of_ble_eq_true rfl⟩) (mx_preV hK hZ hA hR (ci := 0) rfl t5) rfl rfl hl.1 rfl (lv_room (Nat.le_of_ble_eq_true rfl)) d_NJ_listRemarks_9 ⟨Nat.le_of_ble_eq_true rfl, Nat.le_of_ble_eq_true rfl⟩) hR hA (fun h4 H locs hw hR => ?_)
    try dsimp only at hw
    refine mx_aload_n (r := some v0) hx hb d_NJ_listRemarks_12 rfl (lv_at hl 0 rfl) ?_
    refine lv_iconst (v := 0) hx hb d_NJ_listRemarks_13 (by decide) ?_
    obtain ⟨t6, hw⟩ := hw
    refine mx_put (ci := 0) (C := "NetJoins") (T := F_NJ) (N := 18) (v := .int (0 : Int32)) (h' := sI h4 16 v0 (0 : Int32)) hx hb hW hown hK.1 hR (a := v0) rfl t6 rfl i_NJ t_NJ t_NJ_ok n_NJ 16 0 (by decide) rfl kw_136 (fun _ h9 => h9) rfl rfl rfl d_NJ_listRemarks_14 rfl (toE_sI (ci := 0) (k := 16) t6 rfl) (fun H locs hR => ?_)
    obtain ⟨h7, eh7⟩ : ∃ z, z = sI h4 16 v0 (0 : Int32) := ⟨_, rfl⟩
    rw [← eh7] at hR
    have hw := hw h7 eh7
    refine lv_iconst (v := 0) hx hb d_NJ_listRemarks_17 (by decide) ?_
    refine lv_istore_n (i := 1) (lv' := [(1, .int (0 : Int32)), (0, va_rf (some v0))]) hx hb d_NJ_listRemarks_18 rfl hl (by decide) rfl (fun ls hl => ?_)
    obtain ⟨n9, hw⟩ := hw
    exact mn_NJ_listRemarks_19 C post n9 (0 : Int32) _ _ _ _ hw (lv_sub hl [1, 0] rfl) hR
  · have hw := hw.2 c2
    exact mx_vret hx hb hr hlocks hR hw d_NJ_listRemarks_7
set_option maxHeartbeats 4000000 in
set_option maxRecDepth 100000 in
theorem mt_NJ_told (l : Launch) (D : va_G) (cs : CS) (Z : Nat → Nat) (sz : Nat) {post : Int32 → HS → Prop} {h : HS} {v0 : Nat} {x1 : Int32} (hw : wp_NJ_told Z post h v0 x1) : Met l y_NJ_told (Cond.code y_NJ_told c_NJ_told 2 (some .int) :: WA) ({ frames := 8, cells := 0, slots := 0, locals := 233 } : Room) (mPc D cs Z h sz [va_rf (some v0), .int x1]) (va_Qi post (mB D cs h sz) (fA h sz)) 0 0 (fA h sz) := by
  refine mx_met (fun sz => va_Qi post (mB D cs h sz) (fA h sz)) (by decide) (by simp [lg_sl, mx_rf_cat, cat_i, cat_l]) ?_
  intro p e s m args below meth c C hR ls hl
  have hl : lv_has ls 2 [(0, va_rf (some v0)), (1, .int x1)] := hl
  obtain ⟨hx, hb, hr, hml, hown, hW, hlocks, hnm, hK, hZ⟩ := id C
  have hown : s.vm.findClass "NetJoins" = some m.cls := hown
  have hA : ∀ q, s.heap.size ≤ q → fA h s.heap.size q := fun _ h => Or.inr h
  unfold wp_NJ_told at hw
  refine mx_aload_n (r := some v0) hx hb d_NJ_told_0 rfl (lv_at hl 0 rfl) ?_
  obtain ⟨t3, hw⟩ := hw
  refine mx_callv (va_runV (b := v0) (As := []) (rest := []) ⟨hx, hb, hml, hown, hW⟩ (mt_NJ_listRemarks l D cs Z _ hw) (mx_cwV hW ok_NJ_listRemarks kw_183 rfl rfl ⟨Nat.le_of_ble_eq_true rfl, Nat.le_of_ble_eq_true rfl⟩) (mx_preV hK hZ hA hR (ci := 0) rfl t3) rfl rfl hl.1 rfl (lv_room (Nat.le_of_ble_eq_true rfl)) d_NJ_told_1 ⟨Nat.le_of_ble_eq_true rfl, Nat.le_of_ble_eq_true rfl⟩) hR hA (fun h2 H locs hw hR => ?_)
  try dsimp only at hw
  refine lv_iload_n hx hb d_NJ_told_4 rfl (lv_at hl 1 rfl) ?_
  refine lv_if_lt (tgt := 25) hx hb d_NJ_told_5 (by decide) (fun c4 => ?_) (fun c4 => ?_)
  · have hw := hw.1 c4
    refine lv_iconst (v := (-1)) hx hb d_NJ_told_25 (by decide) ?_
    exact mx_iret hx hb hr hlocks hR hw d_NJ_told_26
  · have hw := hw.2 c4
    refine lv_iload_n hx hb d_NJ_told_8 rfl (lv_at hl 1 rfl) ?_
    refine mx_aload_n (r := some v0) hx hb d_NJ_told_9 rfl (lv_at hl 0 rfl) ?_
    obtain ⟨t5, hw⟩ := hw
    refine mx_get (ci := 0) (C := "NetJoins") (T := F_NJ) (N := 18) hx hb hW hown hK.1 hR (a := v0) rfl t5 rfl i_NJ 16 0 (by decide) rfl kw_136 (fun _ h9 => h9) d_NJ_told_10 ?_
    refine lv_icmp_ge (tgt := 25) hx hb d_NJ_told_13 (by decide) (fun c6 => ?_) (fun c6 => ?_)
    · have hw := hw.1 c6
      refine lv_iconst (v := (-1)) hx hb d_NJ_told_25 (by decide) ?_
      exact mx_iret hx hb hr hlocks hR hw d_NJ_told_26
    · have hw := hw.2 c6
      refine mx_aload_n (r := some v0) hx hb d_NJ_told_16 rfl (lv_at hl 0 rfl) ?_
      obtain ⟨t7, hw⟩ := hw
      refine mx_get (ci := 0) (C := "NetJoins") (T := F_NJ) (N := 18) hx hb hW hown hK.1 hR (a := v0) rfl t7 rfl i_NJ 15 2 (by decide) rfl kw_135 (fun _ h9 => h9) d_NJ_told_17 ?_
      refine lv_iload_n hx hb d_NJ_told_20 rfl (lv_at hl 1 rfl) ?_
      obtain ⟨a8, ea8, t9, t9i, hw⟩ := hw
      refine mx_iald hx hb hK.1 hR (a := a8) ea8 t9 t9i d_NJ_told_21 ?_
      refine lv_goto (tgt := 26) hx hb d_NJ_told_22 (by decide) ?_
      exact mx_iret hx hb hr hlocks hR hw d_NJ_told_26
set_option maxHeartbeats 4000000 in
set_option maxRecDepth 100000 in
theorem mt_NJ_thingOf (l : Launch) (D : va_G) (cs : CS) (Z : Nat → Nat) (sz : Nat) {post : Int32 → HS → Prop} {h : HS} {x0 : Option Nat} (hw : wp_NJ_thingOf Z post h x0) : Met l y_NJ_thingOf (Cond.code y_NJ_thingOf c_NJ_thingOf 1 (some .int) :: WA) ({ frames := 2, cells := 0, slots := 0, locals := 100 } : Room) (mPc D cs Z h sz [va_rf x0]) (va_Qi post (mB D cs h sz) (fA h sz)) 0 0 (fA h sz) := by
  refine mx_met (fun sz => va_Qi post (mB D cs h sz) (fA h sz)) (by decide) (by simp [lg_sl, mx_rf_cat, cat_i, cat_l]) ?_
  intro p e s m args below meth c C hR ls hl
  have hl : lv_has ls 1 [(0, va_rf x0)] := by simpa [lv_args, mx_rf_cat, cat_i, cat_l] using hl
  obtain ⟨hx, hb, hr, hml, hown, hW, hlocks, hnm, hK, hZ⟩ := id C
  have hown : s.vm.findClass "NetJoins" = some m.cls := hown
  have hA : ∀ q, s.heap.size ≤ q → fA h s.heap.size q := fun _ h => Or.inr h
  unfold wp_NJ_thingOf at hw
  refine lv_bipush (v := 120) hx hb d_NJ_thingOf_0 (by decide) ?_
  refine mx_aload_n (r := x0) hx hb d_NJ_thingOf_2 rfl (lv_at hl 0 rfl) ?_
  obtain ⟨a1, ea1, t2, hw⟩ := hw
  refine mx_get (ci := 7) (C := "NetJoins$Wire") (T := F_Wire) (N := 7) hx hb hW hown hK.1 hR (a := a1) ea1 t2 rfl i_Wire 1 0 (by decide) rfl kw_652 (fun _ h9 => h9) d_NJ_thingOf_3 ?_
  refine lv_iadd hx hb d_NJ_thingOf_6 ?_
  exact mx_iret hx hb hr hlocks hR hw d_NJ_thingOf_7
set_option maxHeartbeats 4000000 in
set_option maxRecDepth 100000 in
theorem mn_NJ_joinEnds_56 {D : va_G} {cs : CS} {Z : Nat → Nat} {h0 : HS} {p : Program} {l : Launch} {e : Env} {s : State} {m : MethodId} {args : Array Value} {below : List Frame} {meth : Method} {c : Code} {v0 : Nat} (C : mC D cs Z h0 y_NJ_joinEnds c_NJ_joinEnds 4 none p s m args meth c) (post : HS → Prop) (K2 : Option Nat × Int32 × HS → Prop) (hK2 : ∀ (x1 : Option Nat) (x2 : Int32) (h : HS) (H : Heap) (locs : List Loc) (ls : Array Slot), K2 (x1, x2, h) → lv_has ls 4 [(0, va_rf (some v0)), (1, va_rf x1), (2, .int x2)] → mR D cs (fA h0 s.heap.size) h s.heap H locs → W p l e ({ frames := 5, cells := 0, slots := 0, locals := 164 } : Room) s m args below meth c H locs 0 0 (MQ below (va_Qv post (mB D cs h0 s.heap.size) (fA h0 s.heap.size)) args s 0 0 (fA h0 s.heap.size)) (F0 m 2 ls [])) : ∀ (x1 : Option Nat) (x2 : Int32) (h : HS) (H : Heap) (locs : List Loc) (ls : Array Slot), wj_NJ_joinEnds_56 Z post K2 v0 x1 x2 h → lv_has ls 4 [(0, va_rf (some v0)), (1, va_rf x1), (2, .int x2)] → mR D cs (fA h0 s.heap.size) h s.heap H locs → W p l e ({ frames := 5, cells := 0, slots := 0, locals := 164 } : Room) s m args below meth c H locs 0 0 (MQ below (va_Qv post (mB D cs h0 s.heap.size) (fA h0 s.heap.size)) args s 0 0 (fA h0 s.heap.size)) (F0 m 56 ls []) := by
  obtain ⟨hx, hb, hr, hml, hown, hW, hlocks, hnm, hK, hZ⟩ := id C
  have hown : s.vm.findClass "NetJoins" = some m.cls := hown
  have hA : ∀ q, s.heap.size ≤ q → fA h0 s.heap.size q := fun _ h => Or.inr h
  intro x1 x2 h H locs ls hw hl hR
  unfold wj_NJ_joinEnds_56 at hw
  obtain ⟨y1, ey1⟩ : ∃ y : Int32, y = x2 + (1 : Int32) := ⟨_, rfl⟩
  have hw := hw y1 ey1
  refine lv_iinc (v := y1) (lv' := [(2, .int y1), (0, va_rf (some v0)), (1, va_rf x1)]) hx hb d_NJ_joinEnds_56 hl (k := 2) rfl (by rw [ey1]; rfl) (by decide) (by simp [mx_rf_cat]) (fun ls hl => ?_)
  refine lv_goto (tgt := 2) hx hb d_NJ_joinEnds_59 (by decide) ?_
  exact hK2 x1 y1 _ _ _ _ hw (lv_sub hl [1, 2, 0] rfl) hR
set_option maxHeartbeats 4000000 in
set_option maxRecDepth 100000 in
theorem mn_NJ_joinEnds_2 {D : va_G} {cs : CS} {Z : Nat → Nat} {h0 : HS} {p : Program} {l : Launch} {e : Env} {s : State} {m : MethodId} {args : Array Value} {below : List Frame} {meth : Method} {c : Code} {v0 : Nat} (C : mC D cs Z h0 y_NJ_joinEnds c_NJ_joinEnds 4 none p s m args meth c) (post : HS → Prop) : ∀ (n : Nat) (x1 : Option Nat) (x2 : Int32) (h : HS) (H : Heap) (locs : List Loc) (ls : Array Slot), lpF (wb_NJ_joinEnds_2 Z post v0) n (x1, x2, h) → lv_has ls 4 [(0, va_rf (some v0)), (1, va_rf x1), (2, .int x2)] → mR D cs (fA h0 s.heap.size) h s.heap H locs → W p l e ({ frames := 5, cells := 0, slots := 0, locals := 164 } : Room) s m args below meth c H locs 0 0 (MQ below (va_Qv post (mB D cs h0 s.heap.size) (fA h0 s.heap.size)) args s 0 0 (fA h0 s.heap.size)) (F0 m 2 ls []) := by
  obtain ⟨hx, hb, hr, hml, hown, hW, hlocks, hnm, hK, hZ⟩ := id C
  have hown : s.vm.findClass "NetJoins" = some m.cls := hown
  have hA : ∀ q, s.heap.size ≤ q → fA h0 s.heap.size q := fun _ h => Or.inr h
  intro n
  induction n with
  | zero => intro x1 x2 h H locs ls hw; exact hw.elim
  | succ n ih =>
    intro x1 x2 h H locs ls hw hl hR
    have hw : wb_NJ_joinEnds_2 Z post v0 (lpF (wb_NJ_joinEnds_2 Z post v0) n) (x1, x2, h) := hw
    unfold wb_NJ_joinEnds_2 at hw
    dsimp only at hw
    refine lv_iload_n hx hb d_NJ_joinEnds_2 rfl (lv_at hl 2 rfl) ?_
    refine mx_aload_n (r := x1) hx hb d_NJ_joinEnds_3 rfl (lv_at hl 1 rfl) ?_
    obtain ⟨a1, ea1, t2, hw⟩ := hw
    refine mx_get (ci := 7) (C := "NetJoins$Wire") (T := F_Wire) (N := 7) hx hb hW hown hK.1 hR (a := a1) ea1 t2 rfl i_Wire 1 0 (by decide) rfl kw_652 (fun _ h9 => h9) d_NJ_joinEnds_4 ?_
    refine lv_icmp_ge (tgt := 62) hx hb d_NJ_joinEnds_7 (by decide) (fun c3 => ?_) (fun c3 => ?_)
    · have hw := hw.1 c3
      exact mx_vret hx hb hr hlocks hR hw d_NJ_joinEnds_62
    · have hw := hw.2 c3
      refine mx_aload_n (r := some v0) hx hb d_NJ_joinEnds_10 rfl (lv_at hl 0 rfl) ?_
      obtain ⟨t4, hw⟩ := hw
      refine mx_get (ci := 0) (C := "NetJoins") (T := F_NJ) (N := 18) hx hb hW hown hK.1 hR (a := v0) rfl t4 rfl i_NJ 1 2 (by decide) rfl kw_121 (fun _ h9 => h9) d_NJ_joinEnds_11 ?_
      refine lv_iload_n hx hb d_NJ_joinEnds_14 rfl (lv_at hl 2 rfl) ?_
      obtain ⟨a7, ea7, t8, hw⟩ := hw
      refine W.eq (g2 := F0 m 15 ls [.int x2, va_rf (some a7)]) (by rw [← ea7] <;> rfl) ?_
      refine mx_callr (va_runV (b := a7) (As := [.int x2]) (rest := []) ⟨hx, hb, hml, hown, hW⟩ (mt_AL_get l D cs Z _ hw) (mx_cwV hW ok_AL_get kw_196 rfl rfl ⟨Nat.le_of_ble_eq_true rfl, Nat.le_of_ble_eq_true rfl⟩) (mx_preV hK hZ hA hR (ci := 9) rfl t8) rfl rfl hl.1 rfl (lv_room (Nat.le_of_ble_eq_true rfl)) d_NJ_joinEnds_15 ⟨Nat.le_of_ble_eq_true rfl, Nat.le_of_ble_eq_true rfl⟩) hR hA (fun r5 h6 H locs hw hR => ?_)
      try dsimp only at hw
      obtain ⟨t9, hw⟩ := hw
      refine mx_cast (ci := 7) (C := "NetJoins$Wire") (T := F_Wire) (N := 7) hx hb hW hown hK.1 hR rfl kw_259 t9 d_NJ_joinEnds_18 ?_
      refine mx_astore_n (i := 3) (r := r5) (lv' := [(3, va_rf r5), (0, va_rf (some v0)), (1, va_rf x1), (2, .int x2)]) hx hb d_NJ_joinEnds_21 rfl hl (by decide) rfl (fun ls hl => ?_)
      refine mx_aload_n (r := r5) hx hb d_NJ_joinEnds_22 rfl (lv_at hl 0 rfl) ?_
      refine mx_aload_n (r := x1) hx hb d_NJ_joinEnds_23 rfl (lv_at hl 2 rfl) ?_
      obtain ⟨a10, ea10, t11, hw⟩ := hw
      refine mx_get (ci := 7) (C := "NetJoins$Wire") (T := F_Wire) (N := 7) hx hb hW hown hK.1 hR (a := a10) ea10 t11 rfl i_Wire 0 0 (by decide) rfl kw_650 (fun _ h9 => h9) d_NJ_joinEnds_24 ?_
      obtain ⟨a14, ea14, t15, hw⟩ := hw
      refine W.eq (g2 := F0 m 27 ls [.int (gI h6 700 a10), va_rf (some a14)]) (by rw [← ea14] <;> rfl) ?_
      refine mx_calli (va_runV (b := a14) (As := [.int (gI h6 700 a10)]) (rest := []) ⟨hx, hb, hml, hown, hW⟩ (mt_Wire_isOn l D cs Z _ hw) (mx_cwV hW ok_Wire_isOn kw_314 rfl rfl ⟨Nat.le_of_ble_eq_true rfl, Nat.le_of_ble_eq_true rfl⟩) (mx_preV hK hZ hA hR (ci := 7) rfl t15) rfl rfl hl.1 rfl (lv_room (Nat.le_of_ble_eq_true rfl)) d_NJ_joinEnds_27 ⟨Nat.le_of_ble_eq_true rfl, Nat.le_of_ble_eq_true rfl⟩) hR hA (fun r12 h13 H locs hw hR => ?_)
      try dsimp only at hw
      refine lv_if_eq (tgt := 56) hx hb d_NJ_joinEnds_30 (by decide) (fun c16 => ?_) (fun c16 => ?_)
      · have hw := hw.1 c16
        exact mn_NJ_joinEnds_56 C post (lpF (wb_NJ_joinEnds_2 Z post v0) n) ih x1 x2 _ _ _ _ hw (lv_sub hl [1, 2, 3] rfl) hR
      · have hw := hw.2 c16
        refine mx_aload_n (r := x1) hx hb d_NJ_joinEnds_33 rfl (lv_at hl 2 rfl) ?_
        refine mx_aload_n (r := r5) hx hb d_NJ_joinEnds_34 rfl (lv_at hl 0 rfl) ?_
        obtain ⟨a19, ea19, t20, hw⟩ := hw
        refine W.eq (g2 := F0 m 35 ls [va_rf r5, va_rf (some a19)]) (by rw [← ea19] <;> rfl) ?_
        refine mx_calli (va_runV (b := a19) (As := [va_rf r5]) (rest := []) ⟨hx, hb, hml, hown, hW⟩ (mt_Wire_hasCommonEnd l D cs Z _ hw) (mx_cwV hW ok_Wire_hasCommonEnd kw_315 rfl rfl ⟨Nat.le_of_ble_eq_true rfl, Nat.le_of_ble_eq_true rfl⟩) (mx_preV hK hZ hA hR (ci := 7) rfl t20) rfl rfl hl.1 rfl (lv_room (Nat.le_of_ble_eq_true rfl)) d_NJ_joinEnds_35 ⟨Nat.le_of_ble_eq_true rfl, Nat.le_of_ble_eq_true rfl⟩) hR hA (fun r17 h18 H locs hw hR => ?_)
        try dsimp only at hw
        refine lv_if_eq (tgt := 56) hx hb d_NJ_joinEnds_38 (by decide) (fun c21 => ?_) (fun c21 => ?_)
        · have hw := hw.1 c21
          exact mn_NJ_joinEnds_56 C post (lpF (wb_NJ_joinEnds_2 Z post v0) n) ih x1 x2 _ _ _ _ hw (lv_sub hl [1, 2, 3] rfl) hR
        · have hw := hw.2 c21
          refine mx_aload_n (r := some v0) hx hb d_NJ_joinEnds_41 rfl (lv_at hl 1 rfl) ?_
          obtain ⟨t22, hw⟩ := hw
          refine mx_get (ci := 0) (C := "NetJoins") (T := F_NJ) (N := 18) hx hb hW hown hK.1 hR (a := v0) rfl t22 rfl i_NJ 9 2 (by decide) rfl kw_129 (fun _ h9 => h9) d_NJ_joinEnds_42 ?_
          refine mx_aload_n (r := x1) hx hb d_NJ_joinEnds_45 rfl (lv_at hl 2 rfl) ?_
          refine mx_calli (va_runS (As := [va_rf x1]) (rest := [va_rf (gR h18 9 v0)]) ⟨hx, hb, hml, hown, hW⟩ (mt_NJ_thingOf l D cs Z _ hw) (mx_cwS hW ok_NJ_thingOf kw_323 rfl rfl ⟨Nat.le_of_ble_eq_true rfl, Nat.le_of_ble_eq_true rfl⟩) (mx_preS hK hZ hA hR) rfl rfl hl.1 rfl (lv_room (by simp [mx_rf_cat, cat_i, cat_l])) d_NJ_joinEnds_46 ⟨Nat.le_of_ble_eq_true rfl, Nat.le_of_ble_eq_true rfl⟩) hR hA (fun r23 h24 H locs hw hR => ?_)
          try dsimp only at hw
          refine mx_aload_n (r := r5) hx hb d_NJ_joinEnds_49 rfl (lv_at hl 0 rfl) ?_
          refine mx_calli (va_runS (As := [va_rf r5]) (rest := [.int r23, va_rf (gR h18 9 v0)]) ⟨hx, hb, hml, hown, hW⟩ (mt_NJ_thingOf l D cs Z _ hw) (mx_cwS hW ok_NJ_thingOf kw_323 rfl rfl ⟨Nat.le_of_ble_eq_true rfl, Nat.le_of_ble_eq_true rfl⟩) (mx_preS hK hZ hA hR) rfl rfl hl.1 rfl (lv_room (by simp [mx_rf_cat, cat_i, cat_l])) d_NJ_joinEnds_50 ⟨Nat.le_of_ble_eq_true rfl, Nat.le_of_ble_eq_true rfl⟩) hR hA (fun r25 h26 H locs hw hR => ?_)
          try dsimp only at hw
          obtain ⟨a29, ea29, t30, hw⟩ := hw
          refine W.eq (g2 := F0 m 53 ls [.int r25, .int r23, va_rf (some a29)]) (by rw [← ea29] <;> rfl) ?_
          refine mx_callv (va_runV (b := a29) (As := [.int r23, .int r25]) (rest := []) ⟨hx, hb, hml, hown, hW⟩ (mt_Joins_join l D cs Z _ hw) (mx_cwV hW ok_Joins_join kw_326 rfl rfl ⟨Nat.le_of_ble_eq_true rfl, Nat.le_of_ble_eq_true rfl⟩) (mx_preV hK hZ hA hR (ci := 2) rfl t30) rfl rfl hl.1 rfl (lv_room (Nat.le_of_ble_eq_true rfl)) d_NJ_joinEnds_53 ⟨Nat.le_of_ble_eq_true rfl, Nat.le_of_ble_eq_true rfl⟩) hR hA (fun h28 H locs hw hR => ?_)
          try dsimp only at hw
          exact mn_NJ_joinEnds_56 C post (lpF (wb_NJ_joinEnds_2 Z post v0) n) ih x1 x2 _ _ _ _ hw (lv_sub hl [1, 2, 3] rfl) hR
set_option maxHeartbeats 4000000 in
set_option maxRecDepth 100000 in
theorem mt_NJ_joinEnds (l : Launch) (D : va_G) (cs : CS) (Z : Nat → Nat) (sz : Nat) {post : HS → Prop} {h : HS} {v0 : Nat} {x1 : Option Nat} (hw : wp_NJ_joinEnds Z post h v0 x1) : Met l y_NJ_joinEnds (Cond.code y_NJ_joinEnds c_NJ_joinEnds 4 none :: WA) ({ frames := 5, cells := 0, slots := 0, locals := 164 } : Room) (mPc D cs Z h sz [va_rf (some v0), va_rf x1]) (va_Qv post (mB D cs h sz) (fA h sz)) 0 0 (fA h sz) := by
  refine mx_met (fun sz => va_Qv post (mB D cs h sz) (fA h sz)) (by decide) (by simp [lg_sl, mx_rf_cat, cat_i, cat_l]) ?_
  intro p e s m args below meth c C hR ls hl
  have hl : lv_has ls 4 [(0, va_rf (some v0)), (1, va_rf x1)] := by simpa [lv_args, mx_rf_cat, cat_i, cat_l] using hl
  obtain ⟨hx, hb, hr, hml, hown, hW, hlocks, hnm, hK, hZ⟩ := id C
  have hown : s.vm.findClass "NetJoins" = some m.cls := hown
  have hA : ∀ q, s.heap.size ≤ q → fA h s.heap.size q := fun _ h => Or.inr h
  unfold wp_NJ_joinEnds at hw
  refine lv_iconst (v := 0) hx hb d_NJ_joinEnds_0 (by decide) ?_
  refine lv_istore_n (i := 2) (lv' := [(2, .int (0 : Int32)), (0, va_rf (some v0)), (1, va_rf x1)]) hx hb d_NJ_joinEnds_1 rfl hl (by decide) (by simp [mx_rf_cat]) (fun ls hl => ?_)
  obtain ⟨n9, hw⟩ := hw
  exact mn_NJ_joinEnds_2 C post n9 x1 (0 : Int32) _ _ _ _ hw (lv_sub hl [1, 2, 0] rfl) hR
set_option maxHeartbeats 4000000 in
set_option maxRecDepth 100000 in
theorem mn_NJ_joinJunction_61 {D : va_G} {cs : CS} {Z : Nat → Nat} {h0 : HS} {p : Program} {l : Launch} {e : Env} {s : State} {m : MethodId} {args : Array Value} {below : List Frame} {meth : Method} {c : Code} {v0 : Nat} (C : mC D cs Z h0 y_NJ_joinJunction c_NJ_joinJunction 5 none p s m args meth c) (post : HS → Prop) (K4 : Option Nat × Int32 × Int32 × HS → Prop) (hK4 : ∀ (x1 : Option Nat) (x2 : Int32) (x3 : Int32) (h : HS) (H : Heap) (locs : List Loc) (ls : Array Slot), K4 (x1, x2, x3, h) → lv_has ls 5 [(0, va_rf (some v0)), (1, va_rf x1), (2, .int x2), (3, .int x3)] → mR D cs (fA h0 s.heap.size) h s.heap H locs → W p l e ({ frames := 5, cells := 0, slots := 0, locals := 164 } : Room) s m args below meth c H locs 0 0 (MQ below (va_Qv post (mB D cs h0 s.heap.size) (fA h0 s.heap.size)) args s 0 0 (fA h0 s.heap.size)) (F0 m 4 ls [])) : ∀ (x1 : Option Nat) (x2 : Int32) (x3 : Int32) (h : HS) (H : Heap) (locs : List Loc) (ls : Array Slot), wj_NJ_joinJunction_61 Z post K4 v0 x1 x2 x3 h → lv_has ls 5 [(0, va_rf (some v0)), (1, va_rf x1), (2, .int x2), (3, .int x3)] → mR D cs (fA h0 s.heap.size) h s.heap H locs → W p l e ({ frames := 5, cells := 0, slots := 0, locals := 164 } : Room) s m args below meth c H locs 0 0 (MQ below (va_Qv post (mB D cs h0 s.heap.size) (fA h0 s.heap.size)) args s 0 0 (fA h0 s.heap.size)) (F0 m 61 ls []) := by
  obtain ⟨hx, hb, hr, hml, hown, hW, hlocks, hnm, hK, hZ⟩ := id C
  have hown : s.vm.findClass "NetJoins" = some m.cls := hown
  have hA : ∀ q, s.heap.size ≤ q → fA h0 s.heap.size q := fun _ h => Or.inr h
  intro x1 x2 x3 h H locs ls hw hl hR
  unfold wj_NJ_joinJunction_61 at hw
  obtain ⟨y1, ey1⟩ : ∃ y : Int32, y = x3 + (1 : Int32) := ⟨_, rfl⟩
  have hw := hw y1 ey1
  refine lv_iinc (v := y1) (lv' := [(3, .int y1), (0, va_rf (some v0)), (1, va_rf x1), (2, .int x2)]) hx hb d_NJ_joinJunction_61 hl (k := 3) rfl (by rw [ey1]; rfl) (by decide) rfl (fun ls hl => ?_)
  refine lv_goto (tgt := 4) hx hb d_NJ_joinJunction_64 (by decide) ?_
  exact hK4 x1 x2 y1 _ _ _ _ hw (lv_sub hl [1, 2, 3, 0] rfl) hR
set_option maxHeartbeats 4000000 in
set_option maxRecDepth 100000 in
theorem mn_NJ_joinJunction_48 {D : va_G} {cs : CS} {Z : Nat → Nat} {h0 : HS} {p : Program} {l : Launch} {e : Env} {s : State} {m : MethodId} {args : Array Value} {below : List Frame} {meth : Method} {c : Code} {v0 : Nat} (C : mC D cs Z h0 y_NJ_joinJunction c_NJ_joinJunction 5 none p s m args meth c) (post : HS → Prop) (K4 : Option Nat × Int32 × Int32 × HS → Prop) (hK4 : ∀ (x1 : Option Nat) (x2 : Int32) (x3 : Int32) (h : HS) (H : Heap) (locs : List Loc) (ls : Array Slot), K4 (x1, x2, x3, h) → lv_has ls 5 [(0, va_rf (some v0)), (1, va_rf x1), (2, .int x2), (3, .int x3)] → mR D cs (fA h0 s.heap.size) h s.heap H locs → W p l e ({ frames := 5, cells := 0, slots := 0, locals := 164 } : Room) s m args below meth c H locs 0 0 (MQ below (va_Qv post (mB D cs h0 s.heap.size) (fA h0 s.heap.size)) args s 0 0 (fA h0 s.heap.size)) (F0 m 4 ls [])) : ∀ (x1 : Option Nat) (x2 : Int32) (x3 : Int32) (x4 : Option Nat) (h : HS) (H : Heap) (locs : List Loc) (ls : Array Slot), wj_NJ_joinJunction_48 Z post K4 v0 x1 x2 x3 x4 h → lv_has ls 5 [(0, va_rf (some v0)), (1, va_rf x1), (2, .int x2), (3, .int x3), (4, va_rf x4)] → mR D cs (fA h0 s.heap.size) h s.heap H locs → W p l e ({ frames := 5, cells := 0, slots := 0, locals := 164 } : Room) s m args below meth c H locs 0 0 (MQ below (va_Qv post (mB D cs h0 s.heap.size) (fA h0 s.heap.size)) args s 0 0 (fA h0 s.heap.size)) (F0 m 48 ls []) := by
  obtain ⟨hx, hb, hr, hml, hown, hW, hlocks, hnm, hK, hZ⟩ := id C
  have hown : s.vm.findClass "NetJoins" = some m.cls := hown
  have hA : ∀ q, s.heap.size ≤ q → fA h0 s.heap.size q := fun _ h => Or.inr h
  intro x1 x2 x3 x4 h H locs ls hw hl hR
  unfold wj_NJ_joinJunction_48 at hw
  refine mx_aload_n (r := some v0) hx hb d_NJ_joinJunction_48 rfl (lv_at hl 0 rfl) ?_
  obtain ⟨t1, hw⟩ := hw
  refine mx_get (ci := 0) (C := "NetJoins") (T := F_NJ) (N := 18) hx hb hW hown hK.1 hR (a := v0) rfl t1 rfl i_NJ 9 2 (by decide) rfl kw_129 (fun _ h9 => h9) d_NJ_joinJunction_49 ?_
  refine lv_iload_n hx hb d_NJ_joinJunction_52 rfl (lv_at hl 2 rfl) ?_
  refine mx_aload (r := x4) hx hb d_NJ_joinJunction_53 (lv_at hl 4 rfl) ?_
  refine mx_calli (va_runS (As := [va_rf x4]) (rest := [.int x2, va_rf (gR h 9 v0)]) ⟨hx, hb, hml, hown, hW⟩ (mt_NJ_thingOf l D cs Z _ hw) (mx_cwS hW ok_NJ_thingOf kw_323 rfl rfl ⟨Nat.le_of_ble_eq_true rfl, Nat.le_of_ble_eq_true rfl⟩) (mx_preS hK hZ hA hR) rfl rfl hl.1 rfl (lv_room (by simp [mx_rf_cat, cat_i, cat_l])) d_NJ_joinJunction_55 ⟨Nat.le_of_ble_eq_true rfl, Nat.le_of_ble_eq_true rfl⟩) hR hA (fun r2 h3 H locs hw hR => ?_)
  try dsimp only at hw
  obtain ⟨a6, ea6, t7, hw⟩ := hw
  refine W.eq (g2 := F0 m 58 ls [.int r2, .int x2, va_rf (some a6)]) (by rw [← ea6] <;> rfl) ?_
  refine mx_callv (va_runV (b := a6) (As := [.int x2, .int r2]) (rest := []) ⟨hx, hb, hml, hown, hW⟩ (mt_Joins_join l D cs Z _ hw) (mx_cwV hW ok_Joins_join kw_326 rfl rfl ⟨Nat.le_of_ble_eq_true rfl, Nat.le_of_ble_eq_true rfl⟩) (mx_preV hK hZ hA hR (ci := 2) rfl t7) rfl rfl hl.1 rfl (lv_room (Nat.le_of_ble_eq_true rfl)) d_NJ_joinJunction_58 ⟨Nat.le_of_ble_eq_true rfl, Nat.le_of_ble_eq_true rfl⟩) hR hA (fun h5 H locs hw hR => ?_)
  try dsimp only at hw
  exact mn_NJ_joinJunction_61 C post K4 hK4 x1 x2 x3 _ _ _ _ hw (lv_sub hl [0, 1, 2, 3] rfl) hR
set_option maxHeartbeats 4000000 in
set_option maxRecDepth 100000 in
theorem mn_NJ_joinJunction_4 {D : va_G} {cs : CS} {Z : Nat → Nat} {h0 : HS} {p : Program} {l : Launch} {e : Env} {s : State} {m : MethodId} {args : Array Value} {below : List Frame} {meth : Method} {c : Code} {v0 : Nat} (C : mC D cs Z h0 y_NJ_joinJunction c_NJ_joinJunction 5 none p s m args meth c) (post : HS → Prop) : ∀ (n : Nat) (x1 : Option Nat) (x2 : Int32) (x3 : Int32) (h : HS) (H : Heap) (locs : List Loc) (ls : Array Slot), lpF (wb_NJ_joinJunction_4 Z post v0) n (x1, x2, x3, h) → lv_has ls 5 [(0, va_rf (some v0)), (1, va_rf x1), (2, .int x2), (3, .int x3)] → mR D cs (fA h0 s.heap.size) h s.heap H locs → W p l e ({ frames := 5, cells := 0, slots := 0, locals := 164 } : Room) s m args below meth c H locs 0 0 (MQ below (va_Qv post (mB D cs h0 s.heap.size) (fA h0 s.heap.size)) args s 0 0 (fA h0 s.heap.size)) (F0 m 4 ls []) := by
  obtain ⟨hx, hb, hr, hml, hown, hW, hlocks, hnm, hK, hZ⟩ := id C
  have hown : s.vm.findClass "NetJoins" = some m.cls := hown
  have hA : ∀ q, s.heap.size ≤ q → fA h0 s.heap.size q := fun _ h => Or.inr h
  intro n
  induction n with
  | zero => intro x1 x2 x3 h H locs ls hw; exact hw.elim
  | succ n ih =>
    intro x1 x2 x3 h H locs ls hw hl hR
    have hw : wb_NJ_joinJunction_4 Z post v0 (lpF (wb_NJ_joinJunction_4 Z post v0) n) (x1, x2, x3, h) := hw
    unfold wb_NJ_joinJunction_4 at hw
    dsimp only at hw
    refine lv_iload_n hx hb d_NJ_joinJunction_4 rfl (lv_at hl 3 rfl) ?_
    refine mx_aload_n (r := some v0) hx hb d_NJ_joinJunction_5 rfl (lv_at hl 0 rfl) ?_
    obtain ⟨t1, hw⟩ := hw
    refine mx_get (ci := 0) (C := "NetJoins") (T := F_NJ) (N := 18) hx hb hW hown hK.1 hR (a := v0) rfl t1 rfl i_NJ 1 2 (by decide) rfl kw_121 (fun _ h9 => h9) d_NJ_joinJunction_6 ?_
    obtain ⟨a4, ea4, t5, hw⟩ := hw
    refine W.eq (g2 := F0 m 9 ls [va_rf (some a4), .int x3]) (by rw [← ea4] <;> rfl) ?_
    refine mx_calli (va_runV (b := a4) (As := []) (rest := [.int x3]) ⟨hx, hb, hml, hown, hW⟩ (mt_AL_size l D cs Z _ hw) (mx_cwV hW ok_AL_size kw_192 rfl rfl ⟨Nat.le_of_ble_eq_true rfl, Nat.le_of_ble_eq_true rfl⟩) (mx_preV hK hZ hA hR (ci := 9) rfl t5) rfl rfl hl.1 rfl (lv_room (Nat.le_of_ble_eq_true rfl)) d_NJ_joinJunction_9 ⟨Nat.le_of_ble_eq_true rfl, Nat.le_of_ble_eq_true rfl⟩) hR hA (fun r2 h3 H locs hw hR => ?_)
    try dsimp only at hw
    refine lv_icmp_ge (tgt := 67) hx hb d_NJ_joinJunction_12 (by decide) (fun c6 => ?_) (fun c6 => ?_)
    · have hw := hw.1 c6
      exact mx_vret hx hb hr hlocks hR hw d_NJ_joinJunction_67
    · have hw := hw.2 c6
      refine mx_aload_n (r := some v0) hx hb d_NJ_joinJunction_15 rfl (lv_at hl 0 rfl) ?_
      obtain ⟨t7, hw⟩ := hw
      refine mx_get (ci := 0) (C := "NetJoins") (T := F_NJ) (N := 18) hx hb hW hown hK.1 hR (a := v0) rfl t7 rfl i_NJ 1 2 (by decide) rfl kw_121 (fun _ h9 => h9) d_NJ_joinJunction_16 ?_
      refine lv_iload_n hx hb d_NJ_joinJunction_19 rfl (lv_at hl 3 rfl) ?_
      obtain ⟨a10, ea10, t11, hw⟩ := hw
      refine W.eq (g2 := F0 m 20 ls [.int x3, va_rf (some a10)]) (by rw [← ea10] <;> rfl) ?_
      refine mx_callr (va_runV (b := a10) (As := [.int x3]) (rest := []) ⟨hx, hb, hml, hown, hW⟩ (mt_AL_get l D cs Z _ hw) (mx_cwV hW ok_AL_get kw_196 rfl rfl ⟨Nat.le_of_ble_eq_true rfl, Nat.le_of_ble_eq_true rfl⟩) (mx_preV hK hZ hA hR (ci := 9) rfl t11) rfl rfl hl.1 rfl (lv_room (Nat.le_of_ble_eq_true rfl)) d_NJ_joinJunction_20 ⟨Nat.le_of_ble_eq_true rfl, Nat.le_of_ble_eq_true rfl⟩) hR hA (fun r8 h9 H locs hw hR => ?_)
      try dsimp only at hw
      obtain ⟨t12, hw⟩ := hw
      refine mx_cast (ci := 7) (C := "NetJoins$Wire") (T := F_Wire) (N := 7) hx hb hW hown hK.1 hR rfl kw_259 t12 d_NJ_joinJunction_23 ?_
      refine mx_astore (i := 4) (r := r8) (lv' := [(4, va_rf r8), (0, va_rf (some v0)), (1, va_rf x1), (2, .int x2), (3, .int x3)]) hx hb d_NJ_joinJunction_26 hl (by decide) rfl (fun ls hl => ?_)
      refine mx_aload (r := r8) hx hb d_NJ_joinJunction_28 (lv_at hl 0 rfl) ?_
      refine mx_aload_n (r := x1) hx hb d_NJ_joinJunction_30 rfl (lv_at hl 2 rfl) ?_
      obtain ⟨a15, ea15, t16, hw⟩ := hw
      refine W.eq (g2 := F0 m 31 ls [va_rf x1, va_rf (some a15)]) (by rw [← ea15] <;> rfl) ?_
      refine mx_calli (va_runV (b := a15) (As := [va_rf x1]) (rest := []) ⟨hx, hb, hml, hown, hW⟩ (mt_Wire_goesThrough l D cs Z _ hw) (mx_cwV hW ok_Wire_goesThrough kw_260 rfl rfl ⟨Nat.le_of_ble_eq_true rfl, Nat.le_of_ble_eq_true rfl⟩) (mx_preV hK hZ hA hR (ci := 7) rfl t16) rfl rfl hl.1 rfl (lv_room (Nat.le_of_ble_eq_true rfl)) d_NJ_joinJunction_31 ⟨Nat.le_of_ble_eq_true rfl, Nat.le_of_ble_eq_true rfl⟩) hR hA (fun r13 h14 H locs hw hR => ?_)
      try dsimp only at hw
      refine lv_if_eq (tgt := 61) hx hb d_NJ_joinJunction_34 (by decide) (fun c17 => ?_) (fun c17 => ?_)
      · have hw := hw.1 c17
        exact mn_NJ_joinJunction_61 C post (lpF (wb_NJ_joinJunction_4 Z post v0) n) ih x1 x2 x3 _ _ _ _ hw (lv_sub hl [1, 2, 3, 4] rfl) hR
      · have hw := hw.2 c17
        refine lv_iload_n hx hb d_NJ_joinJunction_37 rfl (lv_at hl 3 rfl) ?_
        refine lv_iconst (v := (-1)) hx hb d_NJ_joinJunction_38 (by decide) ?_
        refine lv_icmp_ne (tgt := 48) hx hb d_NJ_joinJunction_39 (by decide) (fun c18 => ?_) (fun c18 => ?_)
        · have hw := hw.1 c18
          exact mn_NJ_joinJunction_48 C post (lpF (wb_NJ_joinJunction_4 Z post v0) n) ih x1 x2 x3 r8 _ _ _ _ hw (lv_sub hl [1, 2, 3, 4, 0] rfl) hR
        · have hw := hw.2 c18
          refine mx_aload (r := r8) hx hb d_NJ_joinJunction_42 (lv_at hl 0 rfl) ?_
          refine mx_calli (va_runS (As := [va_rf r8]) (rest := []) ⟨hx, hb, hml, hown, hW⟩ (mt_NJ_thingOf l D cs Z _ hw) (mx_cwS hW ok_NJ_thingOf kw_323 rfl rfl ⟨Nat.le_of_ble_eq_true rfl, Nat.le_of_ble_eq_true rfl⟩) (mx_preS hK hZ hA hR) rfl rfl hl.1 rfl (lv_room (Nat.le_of_ble_eq_true rfl)) d_NJ_joinJunction_44 ⟨Nat.le_of_ble_eq_true rfl, Nat.le_of_ble_eq_true rfl⟩) hR hA (fun r19 h20 H locs hw hR => ?_)
          try dsimp only at hw
          refine lv_istore_n (i := 2) (lv' := [(2, .int r19), (4, va_rf r8), (0, va_rf (some v0)), (1, va_rf x1), (3, .int x3)]) hx hb d_NJ_joinJunction_47 rfl hl (by decide) (by simp [mx_rf_cat]) (fun ls hl => ?_)
          exact mn_NJ_joinJunction_48 C post (lpF (wb_NJ_joinJunction_4 Z post v0) n) ih x1 r19 x3 r8 _ _ _ _ hw (lv_sub hl [2, 3, 0, 4, 1] rfl) hR
set_option maxHeartbeats 4000000 in
set_option maxRecDepth 100000 in
theorem mt_NJ_joinJunction (l : Launch) (D : va_G) (cs : CS) (Z : Nat → Nat) (sz : Nat) {post : HS → Prop} {h : HS} {v0 : Nat} {x1 : Option Nat} (hw : wp_NJ_joinJunction Z post h v0 x1) : Met l y_NJ_joinJunction (Cond.code y_NJ_joinJunction c_NJ_joinJunction 5 none :: WA) ({ frames := 5, cells := 0, slots := 0, locals := 164 } : Room) (mPc D cs Z h sz [va_rf (some v0), va_rf x1]) (va_Qv post (mB D cs h sz) (fA h sz)) 0 0 (fA h sz) := by
  refine mx_met (fun sz => va_Qv post (mB D cs h sz) (fA h sz)) (by decide) (by simp [lg_sl, mx_rf_cat, cat_i, cat_l]) ?_
  intro p e s m args below meth c C hR ls hl
  have hl : lv_has ls 5 [(0, va_rf (some v0)), (1, va_rf x1)] := by simpa [lv_args, mx_rf_cat, cat_i, cat_l] using hl
  obtain ⟨hx, hb, hr, hml, hown, hW, hlocks, hnm, hK, hZ⟩ := id C
  have hown : s.vm.findClass "NetJoins" = some m.cls := hown
  have hA : ∀ q, s.heap.size ≤ q → fA h s.heap.size q := fun _ h => Or.inr h
  unfold wp_NJ_joinJunction at hw
  refine lv_iconst (v := (-1)) hx hb d_NJ_joinJunction_0 (by decide) ?_
  refine lv_istore_n (i := 2) (lv' := [(2, .int (-1 : Int32)), (0, va_rf (some v0)), (1, va_rf x1)]) hx hb d_NJ_joinJunction_1 rfl hl (by decide) (by simp [mx_rf_cat]) (fun ls hl => ?_)
  refine lv_iconst (v := 0) hx hb d_NJ_joinJunction_2 (by decide) ?_
  refine lv_istore_n (i := 3) (lv' := [(3, .int (0 : Int32)), (2, .int (-1 : Int32)), (0, va_rf (some v0)), (1, va_rf x1)]) hx hb d_NJ_joinJunction_3 rfl hl (by decide) rfl (fun ls hl => ?_)
  obtain ⟨n9, hw⟩ := hw
  exact mn_NJ_joinJunction_4 C post n9 x1 (-1 : Int32) (0 : Int32) _ _ _ _ hw (lv_sub hl [2, 3, 1, 0] rfl) hR
set_option maxHeartbeats 4000000 in
set_option maxRecDepth 100000 in
theorem mn_NJ_joinSamePlace_56 {D : va_G} {cs : CS} {Z : Nat → Nat} {h0 : HS} {p : Program} {l : Launch} {e : Env} {s : State} {m : MethodId} {args : Array Value} {below : List Frame} {meth : Method} {c : Code} {v0 : Nat} (C : mC D cs Z h0 y_NJ_joinSamePlace c_NJ_joinSamePlace 5 none p s m args meth c) (post : HS → Prop) (K2 : Option Nat × Option Nat × Int32 × HS → Prop) (hK2 : ∀ (x1 : Option Nat) (x2 : Option Nat) (x3 : Int32) (h : HS) (H : Heap) (locs : List Loc) (ls : Array Slot), K2 (x1, x2, x3, h) → lv_has ls 5 [(0, va_rf (some v0)), (1, va_rf x1), (2, va_rf x2), (3, .int x3)] → mR D cs (fA h0 s.heap.size) h s.heap H locs → W p l e ({ frames := 5, cells := 0, slots := 0, locals := 164 } : Room) s m args below meth c H locs 0 0 (MQ below (va_Qv post (mB D cs h0 s.heap.size) (fA h0 s.heap.size)) args s 0 0 (fA h0 s.heap.size)) (F0 m 2 ls [])) : ∀ (x1 : Option Nat) (x2 : Option Nat) (x3 : Int32) (h : HS) (H : Heap) (locs : List Loc) (ls : Array Slot), wj_NJ_joinSamePlace_56 Z post K2 v0 x1 x2 x3 h → lv_has ls 5 [(0, va_rf (some v0)), (1, va_rf x1), (2, va_rf x2), (3, .int x3)] → mR D cs (fA h0 s.heap.size) h s.heap H locs → W p l e ({ frames := 5, cells := 0, slots := 0, locals := 164 } : Room) s m args below meth c H locs 0 0 (MQ below (va_Qv post (mB D cs h0 s.heap.size) (fA h0 s.heap.size)) args s 0 0 (fA h0 s.heap.size)) (F0 m 56 ls []) := by
  obtain ⟨hx, hb, hr, hml, hown, hW, hlocks, hnm, hK, hZ⟩ := id C
  have hown : s.vm.findClass "NetJoins" = some m.cls := hown
  have hA : ∀ q, s.heap.size ≤ q → fA h0 s.heap.size q := fun _ h => Or.inr h
  intro x1 x2 x3 h H locs ls hw hl hR
  unfold wj_NJ_joinSamePlace_56 at hw
  obtain ⟨y1, ey1⟩ : ∃ y : Int32, y = x3 + (1 : Int32) := ⟨_, rfl⟩
  have hw := hw y1 ey1
  refine lv_iinc (v := y1) (lv' := [(3, .int y1), (0, va_rf (some v0)), (1, va_rf x1), (2, va_rf x2)]) hx hb d_NJ_joinSamePlace_56 hl (k := 3) rfl (by rw [ey1]; rfl) (by decide) (by simp [mx_rf_cat]) (fun ls hl => ?_)
  refine lv_goto (tgt := 2) hx hb d_NJ_joinSamePlace_59 (by decide) ?_
  exact hK2 x1 x2 y1 _ _ _ _ hw (lv_sub hl [1, 2, 3, 0] rfl) hR
set_option maxHeartbeats 4000000 in
set_option maxRecDepth 100000 in
theorem mn_NJ_joinSamePlace_2 {D : va_G} {cs : CS} {Z : Nat → Nat} {h0 : HS} {p : Program} {l : Launch} {e : Env} {s : State} {m : MethodId} {args : Array Value} {below : List Frame} {meth : Method} {c : Code} {v0 : Nat} (C : mC D cs Z h0 y_NJ_joinSamePlace c_NJ_joinSamePlace 5 none p s m args meth c) (post : HS → Prop) : ∀ (n : Nat) (x1 : Option Nat) (x2 : Option Nat) (x3 : Int32) (h : HS) (H : Heap) (locs : List Loc) (ls : Array Slot), lpF (wb_NJ_joinSamePlace_2 Z post v0) n (x1, x2, x3, h) → lv_has ls 5 [(0, va_rf (some v0)), (1, va_rf x1), (2, va_rf x2), (3, .int x3)] → mR D cs (fA h0 s.heap.size) h s.heap H locs → W p l e ({ frames := 5, cells := 0, slots := 0, locals := 164 } : Room) s m args below meth c H locs 0 0 (MQ below (va_Qv post (mB D cs h0 s.heap.size) (fA h0 s.heap.size)) args s 0 0 (fA h0 s.heap.size)) (F0 m 2 ls []) := by
  obtain ⟨hx, hb, hr, hml, hown, hW, hlocks, hnm, hK, hZ⟩ := id C
  have hown : s.vm.findClass "NetJoins" = some m.cls := hown
  have hA : ∀ q, s.heap.size ≤ q → fA h0 s.heap.size q := fun _ h => Or.inr h
  intro n
  induction n with
  | zero => intro x1 x2 x3 h H locs ls hw; exact hw.elim
  | succ n ih =>
    intro x1 x2 x3 h H locs ls hw hl hR
    have hw : wb_NJ_joinSamePlace_2 Z post v0 (lpF (wb_NJ_joinSamePlace_2 Z post v0) n) (x1, x2, x3, h) := hw
    unfold wb_NJ_joinSamePlace_2 at hw
    dsimp only at hw
    refine lv_iload_n hx hb d_NJ_joinSamePlace_2 rfl (lv_at hl 3 rfl) ?_
    refine mx_aload_n (r := x2) hx hb d_NJ_joinSamePlace_3 rfl (lv_at hl 2 rfl) ?_
    obtain ⟨a3, ea3, t4, hw⟩ := hw
    refine W.eq (g2 := F0 m 4 ls [va_rf (some a3), .int x3]) (by rw [← ea3] <;> rfl) ?_
    refine mx_calli (va_runV (b := a3) (As := []) (rest := [.int x3]) ⟨hx, hb, hml, hown, hW⟩ (mt_AL_size l D cs Z _ hw) (mx_cwV hW ok_AL_size kw_192 rfl rfl ⟨Nat.le_of_ble_eq_true rfl, Nat.le_of_ble_eq_true rfl⟩) (mx_preV hK hZ hA hR (ci := 9) rfl t4) rfl rfl hl.1 rfl (lv_room (Nat.le_of_ble_eq_true rfl)) d_NJ_joinSamePlace_4 ⟨Nat.le_of_ble_eq_true rfl, Nat.le_of_ble_eq_true rfl⟩) hR hA (fun r1 h2 H locs hw hR => ?_)
    try dsimp only at hw
    refine lv_icmp_ge (tgt := 62) hx hb d_NJ_joinSamePlace_7 (by decide) (fun c5 => ?_) (fun c5 => ?_)
    · have hw := hw.1 c5
      exact mx_vret hx hb hr hlocks hR hw d_NJ_joinSamePlace_62
    · have hw := hw.2 c5
      refine mx_aload_n (r := x2) hx hb d_NJ_joinSamePlace_10 rfl (lv_at hl 2 rfl) ?_
      refine lv_iload_n hx hb d_NJ_joinSamePlace_11 rfl (lv_at hl 3 rfl) ?_
      obtain ⟨a8, ea8, t9, hw⟩ := hw
      refine W.eq (g2 := F0 m 12 ls [.int x3, va_rf (some a8)]) (by rw [← ea8] <;> rfl) ?_
      refine mx_callr (va_runV (b := a8) (As := [.int x3]) (rest := []) ⟨hx, hb, hml, hown, hW⟩ (mt_AL_get l D cs Z _ hw) (mx_cwV hW ok_AL_get kw_196 rfl rfl ⟨Nat.le_of_ble_eq_true rfl, Nat.le_of_ble_eq_true rfl⟩) (mx_preV hK hZ hA hR (ci := 9) rfl t9) rfl rfl hl.1 rfl (lv_room (Nat.le_of_ble_eq_true rfl)) d_NJ_joinSamePlace_12 ⟨Nat.le_of_ble_eq_true rfl, Nat.le_of_ble_eq_true rfl⟩) hR hA (fun r6 h7 H locs hw hR => ?_)
      try dsimp only at hw
      obtain ⟨t10, hw⟩ := hw
      refine mx_cast (ci := 6) (C := "NetJoins$Spot") (T := F_Spot) (N := 6) hx hb hW hown hK.1 hR rfl kw_210 t10 d_NJ_joinSamePlace_15 ?_
      refine mx_astore (i := 4) (r := r6) (lv' := [(4, va_rf r6), (0, va_rf (some v0)), (1, va_rf x1), (2, va_rf x2), (3, .int x3)]) hx hb d_NJ_joinSamePlace_18 hl (by decide) rfl (fun ls hl => ?_)
      refine mx_aload (r := r6) hx hb d_NJ_joinSamePlace_20 (lv_at hl 0 rfl) ?_
      refine mx_aload_n (r := x1) hx hb d_NJ_joinSamePlace_22 rfl (lv_at hl 2 rfl) ?_
      obtain ⟨a11, ea11, t12, hw⟩ := hw
      refine mx_get (ci := 6) (C := "NetJoins$Spot") (T := F_Spot) (N := 6) hx hb hW hown hK.1 hR (a := a11) ea11 t12 rfl i_Spot 0 0 (by decide) rfl kw_700 (fun _ h9 => h9) d_NJ_joinSamePlace_23 ?_
      refine mx_aload_n (r := x1) hx hb d_NJ_joinSamePlace_26 rfl (lv_at hl 2 rfl) ?_
      obtain ⟨a13, ea13, t14, hw⟩ := hw
      refine mx_get (ci := 6) (C := "NetJoins$Spot") (T := F_Spot) (N := 6) hx hb hW hown hK.1 hR (a := a13) ea13 t14 rfl i_Spot 1 1 (by decide) rfl kw_703 (fun _ h9 => h9) d_NJ_joinSamePlace_27 ?_
      refine mx_aload_n (r := x1) hx hb d_NJ_joinSamePlace_30 rfl (lv_at hl 2 rfl) ?_
      obtain ⟨a15, ea15, t16, hw⟩ := hw
      refine mx_get (ci := 6) (C := "NetJoins$Spot") (T := F_Spot) (N := 6) hx hb hW hown hK.1 hR (a := a15) ea15 t16 rfl i_Spot 2 1 (by decide) rfl kw_706 (fun _ h9 => h9) d_NJ_joinSamePlace_31 ?_
      obtain ⟨a19, ea19, t20, hw⟩ := hw
      refine W.eq (g2 := F0 m 34 ls [.long (gJ h7 602 a15), .long (gJ h7 601 a13), .int (gI h7 600 a11), va_rf (some a19)]) (by rw [← ea19] <;> rfl) ?_
      refine mx_calli (va_runV (b := a19) (As := [.int (gI h7 600 a11), .long (gJ h7 601 a13), .long (gJ h7 602 a15)]) (rest := []) ⟨hx, hb, hml, hown, hW⟩ (mt_Spot_isAt l D cs Z _ hw) (mx_cwV hW ok_Spot_isAt kw_255 rfl rfl ⟨Nat.le_of_ble_eq_true rfl, Nat.le_of_ble_eq_true rfl⟩) (mx_preV hK hZ hA hR (ci := 6) rfl t20) rfl rfl hl.1 rfl (lv_room (Nat.le_of_ble_eq_true rfl)) d_NJ_joinSamePlace_34 ⟨Nat.le_of_ble_eq_true rfl, Nat.le_of_ble_eq_true rfl⟩) hR hA (fun r17 h18 H locs hw hR => ?_)
      try dsimp only at hw
      refine lv_if_eq (tgt := 56) hx hb d_NJ_joinSamePlace_37 (by decide) (fun c21 => ?_) (fun c21 => ?_)
      · have hw := hw.1 c21
        exact mn_NJ_joinSamePlace_56 C post (lpF (wb_NJ_joinSamePlace_2 Z post v0) n) ih x1 x2 x3 _ _ _ _ hw (lv_sub hl [1, 2, 3, 4] rfl) hR
      · have hw := hw.2 c21
        refine mx_aload_n (r := some v0) hx hb d_NJ_joinSamePlace_40 rfl (lv_at hl 1 rfl) ?_
        obtain ⟨t22, hw⟩ := hw
        refine mx_get (ci := 0) (C := "NetJoins") (T := F_NJ) (N := 18) hx hb hW hown hK.1 hR (a := v0) rfl t22 rfl i_NJ 9 2 (by decide) rfl kw_129 (fun _ h9 => h9) d_NJ_joinSamePlace_41 ?_
        refine mx_aload_n (r := x1) hx hb d_NJ_joinSamePlace_44 rfl (lv_at hl 2 rfl) ?_
        obtain ⟨a23, ea23, t24, hw⟩ := hw
        refine mx_get (ci := 6) (C := "NetJoins$Spot") (T := F_Spot) (N := 6) hx hb hW hown hK.1 hR (a := a23) ea23 t24 rfl i_Spot 4 0 (by decide) rfl kw_710 (fun _ h9 => h9) d_NJ_joinSamePlace_45 ?_
        refine mx_aload (r := r6) hx hb d_NJ_joinSamePlace_48 (lv_at hl 0 rfl) ?_
        obtain ⟨a25, ea25, t26, hw⟩ := hw
        refine mx_get (ci := 6) (C := "NetJoins$Spot") (T := F_Spot) (N := 6) hx hb hW hown hK.1 hR (a := a25) ea25 t26 rfl i_Spot 4 0 (by decide) rfl kw_710 (fun _ h9 => h9) d_NJ_joinSamePlace_50 ?_
        obtain ⟨a29, ea29, t30, hw⟩ := hw
        refine W.eq (g2 := F0 m 53 ls [.int (gI h18 604 a25), .int (gI h18 604 a23), va_rf (some a29)]) (by rw [← ea29] <;> rfl) ?_
        refine mx_callv (va_runV (b := a29) (As := [.int (gI h18 604 a23), .int (gI h18 604 a25)]) (rest := []) ⟨hx, hb, hml, hown, hW⟩ (mt_Joins_join l D cs Z _ hw) (mx_cwV hW ok_Joins_join kw_326 rfl rfl ⟨Nat.le_of_ble_eq_true rfl, Nat.le_of_ble_eq_true rfl⟩) (mx_preV hK hZ hA hR (ci := 2) rfl t30) rfl rfl hl.1 rfl (lv_room (Nat.le_of_ble_eq_true rfl)) d_NJ_joinSamePlace_53 ⟨Nat.le_of_ble_eq_true rfl, Nat.le_of_ble_eq_true rfl⟩) hR hA (fun h28 H locs hw hR => ?_)
        try dsimp only at hw
        exact mn_NJ_joinSamePlace_56 C post (lpF (wb_NJ_joinSamePlace_2 Z post v0) n) ih x1 x2 x3 _ _ _ _ hw (lv_sub hl [1, 2, 3, 4] rfl) hR
set_option maxHeartbeats 4000000 in
set_option maxRecDepth 100000 in
theorem mt_NJ_joinSamePlace (l : Launch) (D : va_G) (cs : CS) (Z : Nat → Nat) (sz : Nat) {post : HS → Prop} {h : HS} {v0 : Nat} {x1 : Option Nat} {x2 : Option Nat} (hw : wp_NJ_joinSamePlace Z post h v0 x1 x2) : Met l y_NJ_joinSamePlace (Cond.code y_NJ_joinSamePlace c_NJ_joinSamePlace 5 none :: WA) ({ frames := 5, cells := 0, slots := 0, locals := 164 } : Room) (mPc D cs Z h sz [va_rf (some v0), va_rf x1, va_rf x2]) (va_Qv post (mB D cs h sz) (fA h sz)) 0 0 (fA h sz) := by
  refine mx_met (fun sz => va_Qv post (mB D cs h sz) (fA h sz)) (by decide) (by simp [lg_sl, mx_rf_cat, cat_i, cat_l]) ?_
  intro p e s m args below meth c C hR ls hl
  have hl : lv_has ls 5 [(0, va_rf (some v0)), (1, va_rf x1), (2, va_rf x2)] := by simpa [lv_args, mx_rf_cat, cat_i, cat_l] using hl
  obtain ⟨hx, hb, hr, hml, hown, hW, hlocks, hnm, hK, hZ⟩ := id C
  have hown : s.vm.findClass "NetJoins" = some m.cls := hown
  have hA : ∀ q, s.heap.size ≤ q → fA h s.heap.size q := fun _ h => Or.inr h
  unfold wp_NJ_joinSamePlace at hw
  refine lv_iconst (v := 0) hx hb d_NJ_joinSamePlace_0 (by decide) ?_
  refine lv_istore_n (i := 3) (lv' := [(3, .int (0 : Int32)), (0, va_rf (some v0)), (1, va_rf x1), (2, va_rf x2)]) hx hb d_NJ_joinSamePlace_1 rfl hl (by decide) (by simp [mx_rf_cat]) (fun ls hl => ?_)
  obtain ⟨n9, hw⟩ := hw
  exact mn_NJ_joinSamePlace_2 C post n9 x1 x2 (0 : Int32) _ _ _ _ hw (lv_sub hl [1, 2, 3, 0] rfl) hR
set_option maxHeartbeats 4000000 in
set_option maxRecDepth 100000 in
theorem mn_NJ_joinSpot_56 {D : va_G} {cs : CS} {Z : Nat → Nat} {h0 : HS} {p : Program} {l : Launch} {e : Env} {s : State} {m : MethodId} {args : Array Value} {below : List Frame} {meth : Method} {c : Code} {v0 : Nat} (C : mC D cs Z h0 y_NJ_joinSpot c_NJ_joinSpot 3 none p s m args meth c) (post : HS → Prop) (K2 : Option Nat × Int32 × HS → Prop) (hK2 : ∀ (x1 : Option Nat) (x2 : Int32) (h : HS) (H : Heap) (locs : List Loc) (ls : Array Slot), K2 (x1, x2, h) → lv_has ls 3 [(0, va_rf (some v0)), (1, va_rf x1), (2, .int x2)] → mR D cs (fA h0 s.heap.size) h s.heap H locs → W p l e ({ frames := 6, cells := 0, slots := 0, locals := 188 } : Room) s m args below meth c H locs 0 0 (MQ below (va_Qv post (mB D cs h0 s.heap.size) (fA h0 s.heap.size)) args s 0 0 (fA h0 s.heap.size)) (F0 m 2 ls [])) : ∀ (x1 : Option Nat) (x2 : Int32) (h : HS) (H : Heap) (locs : List Loc) (ls : Array Slot), wj_NJ_joinSpot_56 Z post K2 v0 x1 x2 h → lv_has ls 3 [(0, va_rf (some v0)), (1, va_rf x1), (2, .int x2)] → mR D cs (fA h0 s.heap.size) h s.heap H locs → W p l e ({ frames := 6, cells := 0, slots := 0, locals := 188 } : Room) s m args below meth c H locs 0 0 (MQ below (va_Qv post (mB D cs h0 s.heap.size) (fA h0 s.heap.size)) args s 0 0 (fA h0 s.heap.size)) (F0 m 56 ls []) := by
  obtain ⟨hx, hb, hr, hml, hown, hW, hlocks, hnm, hK, hZ⟩ := id C
  have hown : s.vm.findClass "NetJoins" = some m.cls := hown
  have hA : ∀ q, s.heap.size ≤ q → fA h0 s.heap.size q := fun _ h => Or.inr h
  intro x1 x2 h H locs ls hw hl hR
  unfold wj_NJ_joinSpot_56 at hw
  obtain ⟨y1, ey1⟩ : ∃ y : Int32, y = x2 + (1 : Int32) := ⟨_, rfl⟩
  have hw := hw y1 ey1
  refine lv_iinc (v := y1) (lv' := [(2, .int y1), (0, va_rf (some v0)), (1, va_rf x1)]) hx hb d_NJ_joinSpot_56 hl (k := 2) rfl (by rw [ey1]; rfl) (by decide) (by simp [mx_rf_cat]) (fun ls hl => ?_)
  refine lv_goto (tgt := 2) hx hb d_NJ_joinSpot_59 (by decide) ?_
  exact hK2 x1 y1 _ _ _ _ hw (lv_sub hl [1, 2, 0] rfl) hR
set_option maxHeartbeats 4000000 in
set_option maxRecDepth 100000 in
theorem mn_NJ_joinSpot_2 {D : va_G} {cs : CS} {Z : Nat → Nat} {h0 : HS} {p : Program} {l : Launch} {e : Env} {s : State} {m : MethodId} {args : Array Value} {below : List Frame} {meth : Method} {c : Code} {v0 : Nat} (C : mC D cs Z h0 y_NJ_joinSpot c_NJ_joinSpot 3 none p s m args meth c) (post : HS → Prop) : ∀ (n : Nat) (x1 : Option Nat) (x2 : Int32) (h : HS) (H : Heap) (locs : List Loc) (ls : Array Slot), lpF (wb_NJ_joinSpot_2 Z post v0) n (x1, x2, h) → lv_has ls 3 [(0, va_rf (some v0)), (1, va_rf x1), (2, .int x2)] → mR D cs (fA h0 s.heap.size) h s.heap H locs → W p l e ({ frames := 6, cells := 0, slots := 0, locals := 188 } : Room) s m args below meth c H locs 0 0 (MQ below (va_Qv post (mB D cs h0 s.heap.size) (fA h0 s.heap.size)) args s 0 0 (fA h0 s.heap.size)) (F0 m 2 ls []) := by
  obtain ⟨hx, hb, hr, hml, hown, hW, hlocks, hnm, hK, hZ⟩ := id C
  have hown : s.vm.findClass "NetJoins" = some m.cls := hown
  have hA : ∀ q, s.heap.size ≤ q → fA h0 s.heap.size q := fun _ h => Or.inr h
  intro n
  induction n with
  | zero => intro x1 x2 h H locs ls hw; exact hw.elim
  | succ n ih =>
    intro x1 x2 h H locs ls hw hl hR
    have hw : wb_NJ_joinSpot_2 Z post v0 (lpF (wb_NJ_joinSpot_2 Z post v0) n) (x1, x2, h) := hw
    unfold wb_NJ_joinSpot_2 at hw
    dsimp only at hw
    refine lv_iload_n hx hb d_NJ_joinSpot_2 rfl (lv_at hl 2 rfl) ?_
    refine mx_aload_n (r := some v0) hx hb d_NJ_joinSpot_3 rfl (lv_at hl 0 rfl) ?_
    obtain ⟨t1, hw⟩ := hw
    refine mx_get (ci := 0) (C := "NetJoins") (T := F_NJ) (N := 18) hx hb hW hown hK.1 hR (a := v0) rfl t1 rfl i_NJ 1 2 (by decide) rfl kw_121 (fun _ h9 => h9) d_NJ_joinSpot_4 ?_
    obtain ⟨a4, ea4, t5, hw⟩ := hw
    refine W.eq (g2 := F0 m 7 ls [va_rf (some a4), .int x2]) (by rw [← ea4] <;> rfl) ?_
    refine mx_calli (va_runV (b := a4) (As := []) (rest := [.int x2]) ⟨hx, hb, hml, hown, hW⟩ (mt_AL_size l D cs Z _ hw) (mx_cwV hW ok_AL_size kw_192 rfl rfl ⟨Nat.le_of_ble_eq_true rfl, Nat.le_of_ble_eq_true rfl⟩) (mx_preV hK hZ hA hR (ci := 9) rfl t5) rfl rfl hl.1 rfl (lv_room (Nat.le_of_ble_eq_true rfl)) d_NJ_joinSpot_7 ⟨Nat.le_of_ble_eq_true rfl, Nat.le_of_ble_eq_true rfl⟩) hR hA (fun r2 h3 H locs hw hR => ?_)
    try dsimp only at hw
    refine lv_icmp_ge (tgt := 62) hx hb d_NJ_joinSpot_10 (by decide) (fun c6 => ?_) (fun c6 => ?_)
    · have hw := hw.1 c6
      refine mx_aload_n (r := some v0) hx hb d_NJ_joinSpot_62 rfl (lv_at hl 0 rfl) ?_
      refine mx_aload_n (r := x1) hx hb d_NJ_joinSpot_63 rfl (lv_at hl 1 rfl) ?_
      refine mx_aload_n (r := some v0) hx hb d_NJ_joinSpot_64 rfl (lv_at hl 0 rfl) ?_
      obtain ⟨t7, hw⟩ := hw
      refine mx_get (ci := 0) (C := "NetJoins") (T := F_NJ) (N := 18) hx hb hW hown hK.1 hR (a := v0) rfl t7 rfl i_NJ 3 2 (by decide) rfl kw_123 (fun _ h9 => h9) d_NJ_joinSpot_65 ?_
      obtain ⟨t10, hw⟩ := hw
      refine mx_callv (va_runV (b := v0) (As := [va_rf x1, va_rf (gR h3 3 v0)]) (rest := []) ⟨hx, hb, hml, hown, hW⟩ (mt_NJ_joinSamePlace l D cs Z _ hw) (mx_cwV hW ok_NJ_joinSamePlace kw_344 rfl rfl ⟨Nat.le_of_ble_eq_true rfl, Nat.le_of_ble_eq_true rfl⟩) (mx_preV hK hZ hA hR (ci := 0) rfl t10) rfl rfl hl.1 rfl (lv_room (Nat.le_of_ble_eq_true rfl)) d_NJ_joinSpot_68 ⟨Nat.le_of_ble_eq_true rfl, Nat.le_of_ble_eq_true rfl⟩) hR hA (fun h9 H locs hw hR => ?_)
      try dsimp only at hw
      refine mx_aload_n (r := some v0) hx hb d_NJ_joinSpot_71 rfl (lv_at hl 0 rfl) ?_
      refine mx_aload_n (r := x1) hx hb d_NJ_joinSpot_72 rfl (lv_at hl 1 rfl) ?_
      refine mx_aload_n (r := some v0) hx hb d_NJ_joinSpot_73 rfl (lv_at hl 0 rfl) ?_
      obtain ⟨t11, hw⟩ := hw
      refine mx_get (ci := 0) (C := "NetJoins") (T := F_NJ) (N := 18) hx hb hW hown hK.1 hR (a := v0) rfl t11 rfl i_NJ 5 2 (by decide) rfl kw_125 (fun _ h9 => h9) d_NJ_joinSpot_74 ?_
      obtain ⟨t14, hw⟩ := hw
      refine mx_callv (va_runV (b := v0) (As := [va_rf x1, va_rf (gR h9 5 v0)]) (rest := []) ⟨hx, hb, hml, hown, hW⟩ (mt_NJ_joinSamePlace l D cs Z _ hw) (mx_cwV hW ok_NJ_joinSamePlace kw_344 rfl rfl ⟨Nat.le_of_ble_eq_true rfl, Nat.le_of_ble_eq_true rfl⟩) (mx_preV hK hZ hA hR (ci := 0) rfl t14) rfl rfl hl.1 rfl (lv_room (Nat.le_of_ble_eq_true rfl)) d_NJ_joinSpot_77 ⟨Nat.le_of_ble_eq_true rfl, Nat.le_of_ble_eq_true rfl⟩) hR hA (fun h13 H locs hw hR => ?_)
      try dsimp only at hw
      exact mx_vret hx hb hr hlocks hR hw d_NJ_joinSpot_80
    · have hw := hw.2 c6
      refine mx_aload_n (r := some v0) hx hb d_NJ_joinSpot_13 rfl (lv_at hl 0 rfl) ?_
      obtain ⟨t15, hw⟩ := hw
      refine mx_get (ci := 0) (C := "NetJoins") (T := F_NJ) (N := 18) hx hb hW hown hK.1 hR (a := v0) rfl t15 rfl i_NJ 1 2 (by decide) rfl kw_121 (fun _ h9 => h9) d_NJ_joinSpot_14 ?_
      refine lv_iload_n hx hb d_NJ_joinSpot_17 rfl (lv_at hl 2 rfl) ?_
      obtain ⟨a18, ea18, t19, hw⟩ := hw
      refine W.eq (g2 := F0 m 18 ls [.int x2, va_rf (some a18)]) (by rw [← ea18] <;> rfl) ?_
      refine mx_callr (va_runV (b := a18) (As := [.int x2]) (rest := []) ⟨hx, hb, hml, hown, hW⟩ (mt_AL_get l D cs Z _ hw) (mx_cwV hW ok_AL_get kw_196 rfl rfl ⟨Nat.le_of_ble_eq_true rfl, Nat.le_of_ble_eq_true rfl⟩) (mx_preV hK hZ hA hR (ci := 9) rfl t19) rfl rfl hl.1 rfl (lv_room (Nat.le_of_ble_eq_true rfl)) d_NJ_joinSpot_18 ⟨Nat.le_of_ble_eq_true rfl, Nat.le_of_ble_eq_true rfl⟩) hR hA (fun r16 h17 H locs hw hR => ?_)
      try dsimp only at hw
      obtain ⟨t20, hw⟩ := hw
      refine mx_cast (ci := 7) (C := "NetJoins$Wire") (T := F_Wire) (N := 7) hx hb hW hown hK.1 hR rfl kw_259 t20 d_NJ_joinSpot_21 ?_
      refine mx_aload_n (r := x1) hx hb d_NJ_joinSpot_24 rfl (lv_at hl 1 rfl) ?_
      obtain ⟨a23, ea23, t24, hw⟩ := hw
      refine W.eq (g2 := F0 m 25 ls [va_rf x1, va_rf (some a23)]) (by rw [← ea23] <;> rfl) ?_
      refine mx_calli (va_runV (b := a23) (As := [va_rf x1]) (rest := []) ⟨hx, hb, hml, hown, hW⟩ (mt_Wire_goesThrough l D cs Z _ hw) (mx_cwV hW ok_Wire_goesThrough kw_260 rfl rfl ⟨Nat.le_of_ble_eq_true rfl, Nat.le_of_ble_eq_true rfl⟩) (mx_preV hK hZ hA hR (ci := 7) rfl t24) rfl rfl hl.1 rfl (lv_room (Nat.le_of_ble_eq_true rfl)) d_NJ_joinSpot_25 ⟨Nat.le_of_ble_eq_true rfl, Nat.le_of_ble_eq_true rfl⟩) hR hA (fun r21 h22 H locs hw hR => ?_)
      try dsimp only at hw
      refine lv_if_eq (tgt := 56) hx hb d_NJ_joinSpot_28 (by decide) (fun c25 => ?_) (fun c25 => ?_)
      · have hw := hw.1 c25
        exact mn_NJ_joinSpot_56 C post (lpF (wb_NJ_joinSpot_2 Z post v0) n) ih x1 x2 _ _ _ _ hw (lv_sub hl [0, 1, 2] rfl) hR
      · have hw := hw.2 c25
        refine mx_aload_n (r := some v0) hx hb d_NJ_joinSpot_31 rfl (lv_at hl 0 rfl) ?_
        obtain ⟨t26, hw⟩ := hw
        refine mx_get (ci := 0) (C := "NetJoins") (T := F_NJ) (N := 18) hx hb hW hown hK.1 hR (a := v0) rfl t26 rfl i_NJ 9 2 (by decide) rfl kw_129 (fun _ h9 => h9) d_NJ_joinSpot_32 ?_
        refine mx_aload_n (r := some v0) hx hb d_NJ_joinSpot_35 rfl (lv_at hl 0 rfl) ?_
        obtain ⟨t27, hw⟩ := hw
        refine mx_get (ci := 0) (C := "NetJoins") (T := F_NJ) (N := 18) hx hb hW hown hK.1 hR (a := v0) rfl t27 rfl i_NJ 1 2 (by decide) rfl kw_121 (fun _ h9 => h9) d_NJ_joinSpot_36 ?_
        refine lv_iload_n hx hb d_NJ_joinSpot_39 rfl (lv_at hl 2 rfl) ?_
        obtain ⟨a30, ea30, t31, hw⟩ := hw
        refine W.eq (g2 := F0 m 40 ls [.int x2, va_rf (some a30), va_rf (gR h22 9 v0)]) (by rw [← ea30] <;> rfl) ?_
        refine mx_callr (va_runV (b := a30) (As := [.int x2]) (rest := [va_rf (gR h22 9 v0)]) ⟨hx, hb, hml, hown, hW⟩ (mt_AL_get l D cs Z _ hw) (mx_cwV hW ok_AL_get kw_196 rfl rfl ⟨Nat.le_of_ble_eq_true rfl, Nat.le_of_ble_eq_true rfl⟩) (mx_preV hK hZ hA hR (ci := 9) rfl t31) rfl rfl hl.1 rfl (lv_room (by simp [mx_rf_cat, cat_i, cat_l])) d_NJ_joinSpot_40 ⟨Nat.le_of_ble_eq_true rfl, Nat.le_of_ble_eq_true rfl⟩) hR hA (fun r28 h29 H locs hw hR => ?_)
        try dsimp only at hw
        obtain ⟨t32, hw⟩ := hw
        refine mx_cast (ci := 7) (C := "NetJoins$Wire") (T := F_Wire) (N := 7) hx hb hW hown hK.1 hR rfl kw_259 t32 d_NJ_joinSpot_43 ?_
        refine mx_calli (va_runS (As := [va_rf r28]) (rest := [va_rf (gR h22 9 v0)]) ⟨hx, hb, hml, hown, hW⟩ (mt_NJ_thingOf l D cs Z _ hw) (mx_cwS hW ok_NJ_thingOf kw_323 rfl rfl ⟨Nat.le_of_ble_eq_true rfl, Nat.le_of_ble_eq_true rfl⟩) (mx_preS hK hZ hA hR) rfl rfl hl.1 rfl (lv_room (by simp [mx_rf_cat, cat_i, cat_l])) d_NJ_joinSpot_46 ⟨Nat.le_of_ble_eq_true rfl, Nat.le_of_ble_eq_true rfl⟩) hR hA (fun r33 h34 H locs hw hR => ?_)
        try dsimp only at hw
        refine mx_aload_n (r := x1) hx hb d_NJ_joinSpot_49 rfl (lv_at hl 1 rfl) ?_
        obtain ⟨a35, ea35, t36, hw⟩ := hw
        refine mx_get (ci := 6) (C := "NetJoins$Spot") (T := F_Spot) (N := 6) hx hb hW hown hK.1 hR (a := a35) ea35 t36 rfl i_Spot 4 0 (by decide) rfl kw_710 (fun _ h9 => h9) d_NJ_joinSpot_50 ?_
        obtain ⟨a39, ea39, t40, hw⟩ := hw
        refine W.eq (g2 := F0 m 53 ls [.int (gI h34 604 a35), .int r33, va_rf (some a39)]) (by rw [← ea39] <;> rfl) ?_
        refine mx_callv (va_runV (b := a39) (As := [.int r33, .int (gI h34 604 a35)]) (rest := []) ⟨hx, hb, hml, hown, hW⟩ (mt_Joins_join l D cs Z _ hw) (mx_cwV hW ok_Joins_join kw_326 rfl rfl ⟨Nat.le_of_ble_eq_true rfl, Nat.le_of_ble_eq_true rfl⟩) (mx_preV hK hZ hA hR (ci := 2) rfl t40) rfl rfl hl.1 rfl (lv_room (Nat.le_of_ble_eq_true rfl)) d_NJ_joinSpot_53 ⟨Nat.le_of_ble_eq_true rfl, Nat.le_of_ble_eq_true rfl⟩) hR hA (fun h38 H locs hw hR => ?_)
        try dsimp only at hw
        exact mn_NJ_joinSpot_56 C post (lpF (wb_NJ_joinSpot_2 Z post v0) n) ih x1 x2 _ _ _ _ hw (lv_sub hl [0, 1, 2] rfl) hR
set_option maxHeartbeats 4000000 in
set_option maxRecDepth 100000 in
theorem mt_NJ_joinSpot (l : Launch) (D : va_G) (cs : CS) (Z : Nat → Nat) (sz : Nat) {post : HS → Prop} {h : HS} {v0 : Nat} {x1 : Option Nat} (hw : wp_NJ_joinSpot Z post h v0 x1) : Met l y_NJ_joinSpot (Cond.code y_NJ_joinSpot c_NJ_joinSpot 3 none :: WA) ({ frames := 6, cells := 0, slots := 0, locals := 188 } : Room) (mPc D cs Z h sz [va_rf (some v0), va_rf x1]) (va_Qv post (mB D cs h sz) (fA h sz)) 0 0 (fA h sz) := by
  refine mx_met (fun sz => va_Qv post (mB D cs h sz) (fA h sz)) (by decide) (by simp [lg_sl, mx_rf_cat, cat_i, cat_l]) ?_
  intro p e s m args below meth c C hR ls hl
  have hl : lv_has ls 3 [(0, va_rf (some v0)), (1, va_rf x1)] := by simpa [lv_args, mx_rf_cat, cat_i, cat_l] using hl
  obtain ⟨hx, hb, hr, hml, hown, hW, hlocks, hnm, hK, hZ⟩ := id C
  have hown : s.vm.findClass "NetJoins" = some m.cls := hown
  have hA : ∀ q, s.heap.size ≤ q → fA h s.heap.size q := fun _ h => Or.inr h
  unfold wp_NJ_joinSpot at hw
  refine lv_iconst (v := 0) hx hb d_NJ_joinSpot_0 (by decide) ?_
  refine lv_istore_n (i := 2) (lv' := [(2, .int (0 : Int32)), (0, va_rf (some v0)), (1, va_rf x1)]) hx hb d_NJ_joinSpot_1 rfl hl (by decide) (by simp [mx_rf_cat]) (fun ls hl => ?_)
  obtain ⟨n9, hw⟩ := hw
  exact mn_NJ_joinSpot_2 C post n9 x1 (0 : Int32) _ _ _ _ hw (lv_sub hl [1, 2, 0] rfl) hR
