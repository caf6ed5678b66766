set_option maxHeartbeats 4000000 in
set_option maxRecDepth 100000 in
theorem mt_Joins_addRow (l : Launch) (D : va_G) (cs : CS) (Z : Nat → Nat) (sz : Nat) {post : HS → Prop} {h : HS} {v0 : Nat} {x1 : Int32} {x2 : Int32} (hw : wp_Joins_addRow Z post h v0 x1 x2) : Met l y_Joins_addRow (Cond.code y_Joins_addRow c_Joins_addRow 3 none :: WA) ({ frames := 4, cells := 1, slots := 900, locals := 144 } : Room) (mPc D cs Z h sz [va_rf (some v0), .int x1, .int x2]) (va_Qv post (mB D cs h sz) (fA h sz)) 1 900 (fA h sz) := by
  refine mx_met (fun sz => va_Qv post (mB D cs h sz) (fA h sz)) (by decide) (by simp [lg_sl, mx_rf_cat, cat_i, cat_l]) ?_
  intro p e s m args below meth c C hR ls hl
  have hl : lv_has ls 3 [(0, va_rf (some v0)), (1, .int x1), (2, .int x2)] := hl
  obtain ⟨hx, hb, hr, hml, hown, hW, hlocks, hnm, hK, hZ⟩ := id C
  have hown : s.vm.findClass "NetJoins$Joins" = some m.cls := hown
  have hA : ∀ q, s.heap.size ≤ q → fA h s.heap.size q := fun _ h => Or.inr h
  unfold wp_Joins_addRow at hw
  refine lv_iload_n hx hb d_Joins_addRow_0 rfl (lv_at hl 1 rfl) ?_
  refine lv_if_lt (tgt := 31) hx hb d_Joins_addRow_1 (by decide) (fun c1 => ?_) (fun c1 => ?_)
  · have hw := hw.1 c1
    refine W.widen (k := 1) (n := 900) (by decide) (by decide) ?_
    exact mx_vret hx hb hr hlocks hR hw d_Joins_addRow_31
  · have hw := hw.2 c1
    refine lv_iload_n hx hb d_Joins_addRow_4 rfl (lv_at hl 1 rfl) ?_
    refine mx_aload_n (r := some v0) hx hb d_Joins_addRow_5 rfl (lv_at hl 0 rfl) ?_
    obtain ⟨t2, hw⟩ := hw
    refine mx_get (ci := 2) (C := "NetJoins$Joins") (T := F_Joins) (N := 1) hx hb hW hown hK.1 hR (a := v0) rfl t2 rfl i_Joins 0 2 (by decide) rfl kw_80 (fun _ h9 => h9) d_Joins_addRow_6 ?_
    obtain ⟨a3, ea3, t4, t4i, hw⟩ := hw
    refine mx_alen hx hb hK.1 hR (a := a3) ea3 t4 t4i d_Joins_addRow_9 ?_
    refine lv_icmp_ge (tgt := 31) hx hb d_Joins_addRow_10 (by decide) (fun c5 => ?_) (fun c5 => ?_)
    · have hw := hw.1 c5
      refine W.widen (k := 1) (n := 900) (by decide) (by decide) ?_
      exact mx_vret hx hb hr hlocks hR hw d_Joins_addRow_31
    · have hw := hw.2 c5
      refine lv_iload_n hx hb d_Joins_addRow_13 rfl (lv_at hl 2 rfl) ?_
      refine lv_if_lt (tgt := 31) hx hb d_Joins_addRow_14 (by decide) (fun c6 => ?_) (fun c6 => ?_)
      · have hw := hw.1 c6
        refine W.widen (k := 1) (n := 900) (by decide) (by decide) ?_
        exact mx_vret hx hb hr hlocks hR hw d_Joins_addRow_31
      · have hw := hw.2 c6
        refine mx_aload_n (r := some v0) hx hb d_Joins_addRow_17 rfl (lv_at hl 0 rfl) ?_
        obtain ⟨t7, hw⟩ := hw
        refine mx_get (ci := 2) (C := "NetJoins$Joins") (T := F_Joins) (N := 1) hx hb hW hown hK.1 hR (a := v0) rfl t7 rfl i_Joins 0 2 (by decide) rfl kw_80 (fun _ h9 => h9) d_Joins_addRow_18 ?_
        refine lv_iload_n hx hb d_Joins_addRow_21 rfl (lv_at hl 1 rfl) ?_
        refine lv_iload_n hx hb d_Joins_addRow_22 rfl (lv_at hl 2 rfl) ?_
        obtain ⟨t9, t9b, hw⟩ := hw
        refine mx_arr_i (N' := x2.toNatClampNeg) hx hb hW hK.1 hR hA kw_84 t9 rfl (by omega) (by decide) (by show _ ≤ _; simp only []; omega) d_Joins_addRow_23 (fun q8 H tq8 hR => ?_)
        refine W.widen (k := 1) (n := 900) (by first | decide | omega) (by first | decide | omega) ?_
        have hw := hw q8 tq8
        obtain ⟨h10, eh10⟩ : ∃ z, z = nH h q8 1 x2.toNatClampNeg := ⟨_, rfl⟩
        rw [← eh10] at hR
        have hw := hw h10 eh10
        obtain ⟨a11, ea11, t12, t12i, hw⟩ := hw
        obtain ⟨t13, hw⟩ := hw
        refine mx_rast hx hb hK hR (a := a11) ea11 t12 (b := q8) rfl t13 t12i d_Joins_addRow_25 (fun H locs hR => ?_)
        obtain ⟨h14, eh14⟩ : ∃ z, z = sQ h10 a11 x1.toNatClampNeg (some q8) := ⟨_, rfl⟩
        rw [← eh14] at hR
        have hw := hw h14 eh14
        refine mx_aload_n (r := some v0) hx hb d_Joins_addRow_26 rfl (lv_at hl 0 rfl) ?_
        refine lv_iload_n hx hb d_Joins_addRow_27 rfl (lv_at hl 1 rfl) ?_
        obtain ⟨t17, hw⟩ := hw
        refine mx_callv (va_runV (b := v0) (As := [.int x1]) (rest := []) ⟨hx, hb, hml, hown, hW⟩ (mt_Joins_scatterRow l D cs Z _ hw) (mx_cwV hW ok_Joins_scatterRow kw_73 rfl rfl ⟨Nat.le_of_ble_eq_true rfl, Nat.le_of_ble_eq_true rfl⟩) (mx_preV hK hZ hA hR (ci := 2) rfl t17) rfl rfl hl.1 rfl (lv_room (Nat.le_of_ble_eq_true rfl)) d_Joins_addRow_28 ⟨Nat.le_of_ble_eq_true rfl, Nat.le_of_ble_eq_true rfl⟩) hR hA (fun h16 H locs hw hR => ?_)
        try dsimp only at hw
        exact mx_vret hx hb hr hlocks hR hw d_Joins_addRow_31
set_option maxHeartbeats 4000000 in
set_option maxRecDepth 100000 in
theorem mn_Joins_scatter_2 {D : va_G} {cs : CS} {Z : Nat → Nat} {h0 : HS} {p : Program} {l : Launch} {e : Env} {s : State} {m : MethodId} {args : Array Value} {below : List Frame} {meth : Method} {c : Code} {v0 : Nat} (C : mC D cs Z h0 y_Joins_scatter c_Joins_scatter 2 none p s m args meth c) (post : HS → Prop) : ∀ (n : Nat) (x1 : Int32) (h : HS) (H : Heap) (locs : List Loc) (ls : Array Slot), lpF (wb_Joins_scatter_2 Z post v0) n (x1, h) → lv_has ls 2 [(0, va_rf (some v0)), (1, .int x1)] → mR D cs (fA h0 s.heap.size) h s.heap H locs → W p l e ({ frames := 4, cells := 0, slots := 0, locals := 144 } : Room) s m args below meth c H locs 0 0 (MQ below (va_Qv post (mB D cs h0 s.heap.size) (fA h0 s.heap.size)) args s 0 0 (fA h0 s.heap.size)) (F0 m 2 ls []) := by
  obtain ⟨hx, hb, hr, hml, hown, hW, hlocks, hnm, hK, hZ⟩ := id C
  have hown : s.vm.findClass "NetJoins$Joins" = some m.cls := hown
  have hA : ∀ q, s.heap.size ≤ q → fA h0 s.heap.size q := fun _ h => Or.inr h
  intro n
  induction n with
  | zero => intro x1 h H locs ls hw; exact hw.elim
  | succ n ih =>
    intro x1 h H locs ls hw hl hR
    have hw : wb_Joins_scatter_2 Z post v0 (lpF (wb_Joins_scatter_2 Z post v0) n) (x1, h) := hw
    unfold wb_Joins_scatter_2 at hw
    dsimp only at hw
    refine lv_iload_n hx hb d_Joins_scatter_2 rfl (lv_at hl 1 rfl) ?_
    refine mx_aload_n (r := some v0) hx hb d_Joins_scatter_3 rfl (lv_at hl 0 rfl) ?_
    obtain ⟨t1, hw⟩ := hw
    refine mx_get (ci := 2) (C := "NetJoins$Joins") (T := F_Joins) (N := 1) hx hb hW hown hK.1 hR (a := v0) rfl t1 rfl i_Joins 0 2 (by decide) rfl kw_80 (fun _ h9 => h9) d_Joins_scatter_4 ?_
    obtain ⟨a2, ea2, t3, t3i, hw⟩ := hw
    refine mx_alen hx hb hK.1 hR (a := a2) ea2 t3 t3i d_Joins_scatter_7 ?_
    refine lv_icmp_ge (tgt := 22) hx hb d_Joins_scatter_8 (by decide) (fun c4 => ?_) (fun c4 => ?_)
    · have hw := hw.1 c4
      exact mx_vret hx hb hr hlocks hR hw d_Joins_scatter_22
    · have hw := hw.2 c4
      refine mx_aload_n (r := some v0) hx hb d_Joins_scatter_11 rfl (lv_at hl 0 rfl) ?_
      refine lv_iload_n hx hb d_Joins_scatter_12 rfl (lv_at hl 1 rfl) ?_
      obtain ⟨t7, hw⟩ := hw
      refine mx_callv (va_runV (b := v0) (As := [.int x1]) (rest := []) ⟨hx, hb, hml, hown, hW⟩ (mt_Joins_scatterRow l D cs Z _ hw) (mx_cwV hW ok_Joins_scatterRow kw_73 rfl rfl ⟨Nat.le_of_ble_eq_true rfl, Nat.le_of_ble_eq_true rfl⟩) (mx_preV hK hZ hA hR (ci := 2) rfl t7) rfl rfl hl.1 rfl (lv_room (Nat.le_of_ble_eq_true rfl)) d_Joins_scatter_13 ⟨Nat.le_of_ble_eq_true rfl, Nat.le_of_ble_eq_true rfl⟩) hR hA (fun h6 H locs hw hR => ?_)
      try dsimp only at hw
      obtain ⟨y8, ey8⟩ : ∃ y : Int32, y = x1 + (1 : Int32) := ⟨_, rfl⟩
      have hw := hw y8 ey8
      refine lv_iinc (v := y8) (lv' := [(1, .int y8), (0, va_rf (some v0))]) hx hb d_Joins_scatter_16 hl (k := 1) rfl (by rw [ey8]; rfl) (by decide) rfl (fun ls hl => ?_)
      refine lv_goto (tgt := 2) hx hb d_Joins_scatter_19 (by decide) ?_
      exact ih y8 _ _ _ _ hw (lv_sub hl [1, 0] rfl) hR
set_option maxHeartbeats 4000000 in
set_option maxRecDepth 100000 in
theorem mt_Joins_scatter (l : Launch) (D : va_G) (cs : CS) (Z : Nat → Nat) (sz : Nat) {post : HS → Prop} {h : HS} {v0 : Nat}  (hw : wp_Joins_scatter Z post h v0 ) : Met l y_Joins_scatter (Cond.code y_Joins_scatter c_Joins_scatter 2 none :: WA) ({ frames := 4, cells := 0, slots := 0, locals := 144 } : Room) (mPc D cs Z h sz [va_rf (some v0)]) (va_Qv post (mB D cs h sz) (fA h sz)) 0 0 (fA h sz) := by
  refine mx_met (fun sz => va_Qv post (mB D cs h sz) (fA h sz)) (by decide) (by simp [lg_sl, mx_rf_cat, cat_i, cat_l]) ?_
  intro p e s m args below meth c C hR ls hl
  have hl : lv_has ls 2 [(0, va_rf (some v0))] := hl
  obtain ⟨hx, hb, hr, hml, hown, hW, hlocks, hnm, hK, hZ⟩ := id C
  have hown : s.vm.findClass "NetJoins$Joins" = some m.cls := hown
  have hA : ∀ q, s.heap.size ≤ q → fA h s.heap.size q := fun _ h => Or.inr h
  unfold wp_Joins_scatter at hw
  refine lv_iconst (v := 0) hx hb d_Joins_scatter_0 (by decide) ?_
  refine lv_istore_n (i := 1) (lv' := [(1, .int (0 : Int32)), (0, va_rf (some v0))]) hx hb d_Joins_scatter_1 rfl hl (by decide) rfl (fun ls hl => ?_)
  obtain ⟨n9, hw⟩ := hw
  exact mn_Joins_scatter_2 C post n9 (0 : Int32) _ _ _ _ hw (lv_sub hl [1, 0] rfl) hR
set_option maxHeartbeats 4000000 in
set_option maxRecDepth 100000 in
theorem mt_Tab_init (l : Launch) (D : va_G) (cs : CS) (Z : Nat → Nat) (sz : Nat) {post : HS → Prop} {h : HS} {v0 : Nat}  (hw : wp_Tab_init Z post h v0 ) : Met l y_Tab_init (Cond.code y_Tab_init c_Tab_init 1 none :: WA) ({ frames := 3, cells := 5, slots := 4800, locals := 123 } : Room) (mPc D cs Z h sz [va_rf (some v0)]) (va_Qv post (mB D cs h sz) (fA h sz)) 5 4800 (fA h sz) := by
  refine mx_met (fun sz => va_Qv post (mB D cs h sz) (fA h sz)) (by decide) (by simp [lg_sl, mx_rf_cat, cat_i, cat_l]) ?_
  intro p e s m args below meth c C hR ls hl
  have hl : lv_has ls 1 [(0, va_rf (some v0))] := hl
  obtain ⟨hx, hb, hr, hml, hown, hW, hlocks, hnm, hK, hZ⟩ := id C
  have hown : s.vm.findClass "NetJoins$NetTable" = some m.cls := hown
  have hA : ∀ q, s.heap.size ≤ q → fA h s.heap.size q := fun _ h => Or.inr h
  unfold wp_Tab_init at hw
  refine mx_aload_n (r := some v0) hx hb d_Tab_init_0 rfl (lv_at hl 0 rfl) ?_
  refine W.objInit hx hb hown (hW _ kw_90) (hW _ kw_37) (hW _ kw_38) rfl (by rw [hml]; exact hl.1) rfl d_Tab_init_1 (Nat.le_of_ble_eq_true rfl) (Nat.le_of_ble_eq_true rfl) ?_
  refine W.eq (g2 := F0 m 4 ls []) rfl ?_
  refine mx_aload_n (r := some v0) hx hb d_Tab_init_4 rfl (lv_at hl 0 rfl) ?_
  refine lv_sipush (v := 960) hx hb d_Tab_init_5 (by decide) ?_
  refine mx_arr_i (N' := 960) hx hb hW hK.1 hR hA kw_84 (by decide) (by decide) (by decide) (by decide) (by decide) d_Tab_init_8 (fun q1 H tq1 hR => ?_)
  refine W.widen (k := 1) (n := 960) (by first | decide | omega) (by first | decide | omega) ?_
  have hw := hw q1 tq1
  obtain ⟨h2, eh2⟩ : ∃ z, z = nH h q1 1 960 := ⟨_, rfl⟩
  rw [← eh2] at hR
  have hw := hw h2 eh2
  obtain ⟨t3, hw⟩ := hw
  refine mx_putF (ci := 3) (C := "NetJoins$NetTable") (T := F_Tab) (N := 7) (v := va_rf (some q1)) (h' := sR h2 300 v0 (some q1)) hx hb hW hown hK.1 hR (a := v0) rfl t3 rfl i_Tab t_Tab t_Tab_ok n_Tab 0 2 (by decide) rfl kw_94 (fun _ h9 => h9) rfl hnm rfl (mx_rf_n _ rfl _).1 (mx_rf_n _ rfl _).2 d_Tab_init_10 rfl (toE_sR (ci := 3) (k := 0) t3 rfl) (fun H locs hR => ?_)
  obtain ⟨h4, eh4⟩ : ∃ z, z = sR h2 300 v0 (some q1) := ⟨_, rfl⟩
  rw [← eh4] at hR
  have hw := hw h4 eh4
  refine mx_aload_n (r := some v0) hx hb d_Tab_init_13 rfl (lv_at hl 0 rfl) ?_
  refine lv_sipush (v := 960) hx hb d_Tab_init_14 (by decide) ?_
  refine mx_arr_i (N' := 960) hx hb hW hK.1 hR hA kw_84 (by decide) (by decide) (by decide) (by decide) (by decide) d_Tab_init_17 (fun q5 H tq5 hR => ?_)
  refine W.widen (k := 2) (n := 1920) (by first | decide | omega) (by first | decide | omega) ?_
  have hw := hw q5 tq5
  obtain ⟨h6, eh6⟩ : ∃ z, z = nH h4 q5 1 960 := ⟨_, rfl⟩
  rw [← eh6] at hR
  have hw := hw h6 eh6
  obtain ⟨t7, hw⟩ := hw
  refine mx_putF (ci := 3) (C := "NetJoins$NetTable") (T := F_Tab) (N := 7) (v := va_rf (some q5)) (h' := sR h6 301 v0 (some q5)) hx hb hW hown hK.1 hR (a := v0) rfl t7 rfl i_Tab t_Tab t_Tab_ok n_Tab 1 2 (by decide) rfl kw_95 (fun _ h9 => h9) rfl hnm rfl (mx_rf_n _ rfl _).1 (mx_rf_n _ rfl _).2 d_Tab_init_19 rfl (toE_sR (ci := 3) (k := 1) t7 rfl) (fun H locs hR => ?_)
  obtain ⟨h8, eh8⟩ : ∃ z, z = sR h6 301 v0 (some q5) := ⟨_, rfl⟩
  rw [← eh8] at hR
  have hw := hw h8 eh8
  refine mx_aload_n (r := some v0) hx hb d_Tab_init_22 rfl (lv_at hl 0 rfl) ?_
  refine lv_sipush (v := 960) hx hb d_Tab_init_23 (by decide) ?_
  refine mx_arr_i (N' := 960) hx hb hW hK.1 hR hA kw_84 (by decide) (by decide) (by decide) (by decide) (by decide) d_Tab_init_26 (fun q9 H tq9 hR => ?_)
  refine W.widen (k := 3) (n := 2880) (by first | decide | omega) (by first | decide | omega) ?_
  have hw := hw q9 tq9
  obtain ⟨h10, eh10⟩ : ∃ z, z = nH h8 q9 1 960 := ⟨_, rfl⟩
  rw [← eh10] at hR
  have hw := hw h10 eh10
  obtain ⟨t11, hw⟩ := hw
  refine mx_putF (ci := 3) (C := "NetJoins$NetTable") (T := F_Tab) (N := 7) (v := va_rf (some q9)) (h' := sR h10 302 v0 (some q9)) hx hb hW hown hK.1 hR (a := v0) rfl t11 rfl i_Tab t_Tab t_Tab_ok n_Tab 2 2 (by decide) rfl kw_96 (fun _ h9 => h9) rfl hnm rfl (mx_rf_n _ rfl _).1 (mx_rf_n _ rfl _).2 d_Tab_init_28 rfl (toE_sR (ci := 3) (k := 2) t11 rfl) (fun H locs hR => ?_)
  obtain ⟨h12, eh12⟩ : ∃ z, z = sR h10 302 v0 (some q9) := ⟨_, rfl⟩
  rw [← eh12] at hR
  have hw := hw h12 eh12
  refine mx_aload_n (r := some v0) hx hb d_Tab_init_31 rfl (lv_at hl 0 rfl) ?_
  refine lv_sipush (v := 960) hx hb d_Tab_init_32 (by decide) ?_
  refine mx_arr_i (N' := 960) hx hb hW hK.1 hR hA kw_84 (by decide) (by decide) (by decide) (by decide) (by decide) d_Tab_init_35 (fun q13 H tq13 hR => ?_)
  refine W.widen (k := 4) (n := 3840) (by first | decide | omega) (by first | decide | omega) ?_
  have hw := hw q13 tq13
  obtain ⟨h14, eh14⟩ : ∃ z, z = nH h12 q13 1 960 := ⟨_, rfl⟩
  rw [← eh14] at hR
  have hw := hw h14 eh14
  obtain ⟨t15, hw⟩ := hw
  refine mx_putF (ci := 3) (C := "NetJoins$NetTable") (T := F_Tab) (N := 7) (v := va_rf (some q13)) (h' := sR h14 303 v0 (some q13)) hx hb hW hown hK.1 hR (a := v0) rfl t15 rfl i_Tab t_Tab t_Tab_ok n_Tab 3 2 (by decide) rfl kw_98 (fun _ h9 => h9) rfl hnm rfl (mx_rf_n _ rfl _).1 (mx_rf_n _ rfl _).2 d_Tab_init_37 rfl (toE_sR (ci := 3) (k := 3) t15 rfl) (fun H locs hR => ?_)
  obtain ⟨h16, eh16⟩ : ∃ z, z = sR h14 303 v0 (some q13) := ⟨_, rfl⟩
  rw [← eh16] at hR
  have hw := hw h16 eh16
  refine mx_aload_n (r := some v0) hx hb d_Tab_init_40 rfl (lv_at hl 0 rfl) ?_
  refine lv_sipush (v := 960) hx hb d_Tab_init_41 (by decide) ?_
  refine mx_arr_z (N' := 960) hx hb hW hK.1 hR hA kw_119 (by decide) (by decide) (by decide) (by decide) (by decide) d_Tab_init_44 (fun q17 H tq17 hR => ?_)
  refine W.widen (k := 5) (n := 4800) (by first | decide | omega) (by first | decide | omega) ?_
  have hw := hw q17 tq17
  obtain ⟨h18, eh18⟩ : ∃ z, z = nH h16 q17 2 960 := ⟨_, rfl⟩
  rw [← eh18] at hR
  have hw := hw h18 eh18
  obtain ⟨t19, hw⟩ := hw
  refine mx_putF (ci := 3) (C := "NetJoins$NetTable") (T := F_Tab) (N := 7) (v := va_rf (some q17)) (h' := sR h18 304 v0 (some q17)) hx hb hW hown hK.1 hR (a := v0) rfl t19 rfl i_Tab t_Tab t_Tab_ok n_Tab 4 2 (by decide) rfl kw_100 (fun _ h9 => h9) rfl hnm rfl (mx_rf_n _ rfl _).1 (mx_rf_n _ rfl _).2 d_Tab_init_46 rfl (toE_sR (ci := 3) (k := 4) t19 rfl) (fun H locs hR => ?_)
  obtain ⟨h20, eh20⟩ : ∃ z, z = sR h18 304 v0 (some q17) := ⟨_, rfl⟩
  rw [← eh20] at hR
  have hw := hw h20 eh20
  refine mx_aload_n (r := some v0) hx hb d_Tab_init_49 rfl (lv_at hl 0 rfl) ?_
  obtain ⟨t21, hw⟩ := hw
  refine mx_get (ci := 3) (C := "NetJoins$NetTable") (T := F_Tab) (N := 7) hx hb hW hown hK.1 hR (a := v0) rfl t21 rfl i_Tab 0 2 (by decide) rfl kw_94 (fun _ h9 => h9) d_Tab_init_50 ?_
  refine lv_iconst (v := (-1)) hx hb d_Tab_init_53 (by decide) ?_
  refine mx_callv (va_runS (As := [va_rf (gR h20 300 v0), .int (-1 : Int32)]) (rest := []) ⟨hx, hb, hml, hown, hW⟩ (mt_ARR_fill l D cs Z _ hw) (mx_cwS hW ok_ARR_fill kw_91 rfl rfl ⟨Nat.le_of_ble_eq_true rfl, Nat.le_of_ble_eq_true rfl⟩) (mx_preS hK hZ hA hR) rfl rfl hl.1 rfl (lv_room (Nat.le_of_ble_eq_true rfl)) d_Tab_init_54 ⟨Nat.le_of_ble_eq_true rfl, Nat.le_of_ble_eq_true rfl⟩) hR hA (fun h23 H locs hw hR => ?_)
  try dsimp only at hw
  exact mx_vret hx hb hr hlocks hR hw d_Tab_init_57
set_option maxHeartbeats 4000000 in
set_option maxRecDepth 100000 in
theorem mt_Tab_remember (l : Launch) (D : va_G) (cs : CS) (Z : Nat → Nat) (sz : Nat) {post : HS → Prop} {h : HS} {v0 : Nat}  (hw : wp_Tab_remember Z post h v0 ) : Met l y_Tab_remember (Cond.code y_Tab_remember c_Tab_remember 1 none :: WA) ({ frames := 3, cells := 0, slots := 0, locals := 300 } : Room) (mPc D cs Z h sz [va_rf (some v0)]) (va_Qv post (mB D cs h sz) (fA h sz)) 0 0 (fA h sz) := by
  refine mx_met (fun sz => va_Qv post (mB D cs h sz) (fA h sz)) (by decide) (by simp [lg_sl, mx_rf_cat, cat_i, cat_l]) ?_
  intro p e s m args below meth c C hR ls hl
  have hl : lv_has ls 1 [(0, va_rf (some v0))] := hl
  obtain ⟨hx, hb, hr, hml, hown, hW, hlocks, hnm, hK, hZ⟩ := id C
  have hown : s.vm.findClass "NetJoins$NetTable" = some m.cls := hown
  have hA : ∀ q, s.heap.size ≤ q → fA h s.heap.size q := fun _ h => Or.inr h
  unfold wp_Tab_remember at hw
  refine mx_aload_n (r := some v0) hx hb d_Tab_remember_0 rfl (lv_at hl 0 rfl) ?_
  obtain ⟨t1, hw⟩ := hw
  refine mx_get (ci := 3) (C := "NetJoins$NetTable") (T := F_Tab) (N := 7) hx hb hW hown hK.1 hR (a := v0) rfl t1 rfl i_Tab 0 2 (by decide) rfl kw_94 (fun _ h9 => h9) d_Tab_remember_1 ?_
  refine lv_iconst (v := 0) hx hb d_Tab_remember_4 (by decide) ?_
  refine mx_aload_n (r := some v0) hx hb d_Tab_remember_5 rfl (lv_at hl 0 rfl) ?_
  obtain ⟨t2, hw⟩ := hw
  refine mx_get (ci := 3) (C := "NetJoins$NetTable") (T := F_Tab) (N := 7) hx hb hW hown hK.1 hR (a := v0) rfl t2 rfl i_Tab 1 2 (by decide) rfl kw_95 (fun _ h9 => h9) d_Tab_remember_6 ?_
  refine lv_iconst (v := 0) hx hb d_Tab_remember_9 (by decide) ?_
  refine mx_aload_n (r := some v0) hx hb d_Tab_remember_10 rfl (lv_at hl 0 rfl) ?_
  obtain ⟨t3, hw⟩ := hw
  refine mx_get (ci := 3) (C := "NetJoins$NetTable") (T := F_Tab) (N := 7) hx hb hW hown hK.1 hR (a := v0) rfl t3 rfl i_Tab 0 2 (by decide) rfl kw_94 (fun _ h9 => h9) d_Tab_remember_11 ?_
  obtain ⟨a4, ea4, t5, t5i, hw⟩ := hw
  refine mx_alen hx hb hK.1 hR (a := a4) ea4 t5 t5i d_Tab_remember_14 ?_
  obtain ⟨a6, ea6, t7, hw⟩ := hw
  obtain ⟨a8, ea8, t9, t9a, t9b, t9c, t9d, t9e, hw⟩ := hw
  refine mx_copyi hx hb hW (by rw [hml]; exact hl.1.symm) hown hK.1 hR kw_295 kw_297 kw_296 kw_19 (a0 := a6) ea6 t7 (a := a8) ea8 t9 t9a t9b t9c t9d t9e (Nat.le_of_ble_eq_true rfl) (Nat.le_of_ble_eq_true rfl) d_Tab_remember_15 (fun H locs hR => ?_)
  obtain ⟨h10, eh10⟩ : ∃ z, z = wA h a8 (va_cpy (gA h a6) (gA h a8) (0 : Int32).toNatClampNeg (0 : Int32).toNatClampNeg (nI (gN h a4)).toNatClampNeg) := ⟨_, rfl⟩
  rw [← eh10] at hR
  have hw := hw h10 eh10
  exact mx_vret hx hb hr hlocks hR hw d_Tab_remember_18
set_option maxHeartbeats 4000000 in
set_option maxRecDepth 100000 in
theorem mt_Tab_begin (l : Launch) (D : va_G) (cs : CS) (Z : Nat → Nat) (sz : Nat) {post : HS → Prop} {h : HS} {v0 : Nat}  (hw : wp_Tab_begin Z post h v0 ) : Met l y_Tab_begin (Cond.code y_Tab_begin c_Tab_begin 1 none :: WA) ({ frames := 3, cells := 0, slots := 0, locals := 123 } : Room) (mPc D cs Z h sz [va_rf (some v0)]) (va_Qv post (mB D cs h sz) (fA h sz)) 0 0 (fA h sz) := by
  refine mx_met (fun sz => va_Qv post (mB D cs h sz) (fA h sz)) (by decide) (by simp [lg_sl, mx_rf_cat, cat_i, cat_l]) ?_
  intro p e s m args below meth c C hR ls hl
  have hl : lv_has ls 1 [(0, va_rf (some v0))] := hl
  obtain ⟨hx, hb, hr, hml, hown, hW, hlocks, hnm, hK, hZ⟩ := id C
  have hown : s.vm.findClass "NetJoins$NetTable" = some m.cls := hown
  have hA : ∀ q, s.heap.size ≤ q → fA h s.heap.size q := fun _ h => Or.inr h
  unfold wp_Tab_begin at hw
  refine mx_aload_n (r := some v0) hx hb d_Tab_begin_0 rfl (lv_at hl 0 rfl) ?_
  obtain ⟨t1, hw⟩ := hw
  refine mx_get (ci := 3) (C := "NetJoins$NetTable") (T := F_Tab) (N := 7) hx hb hW hown hK.1 hR (a := v0) rfl t1 rfl i_Tab 3 2 (by decide) rfl kw_98 (fun _ h9 => h9) d_Tab_begin_1 ?_
  refine lv_iconst (v := 0) hx hb d_Tab_begin_4 (by decide) ?_
  refine mx_callv (va_runS (As := [va_rf (gR h 303 v0), .int (0 : Int32)]) (rest := []) ⟨hx, hb, hml, hown, hW⟩ (mt_ARR_fill l D cs Z _ hw) (mx_cwS hW ok_ARR_fill kw_91 rfl rfl ⟨Nat.le_of_ble_eq_true rfl, Nat.le_of_ble_eq_true rfl⟩) (mx_preS hK hZ hA hR) rfl rfl hl.1 rfl (lv_room (Nat.le_of_ble_eq_true rfl)) d_Tab_begin_5 ⟨Nat.le_of_ble_eq_true rfl, Nat.le_of_ble_eq_true rfl⟩) hR hA (fun h3 H locs hw hR => ?_)
  try dsimp only at hw
  refine mx_aload_n (r := some v0) hx hb d_Tab_begin_8 rfl (lv_at hl 0 rfl) ?_
  refine lv_iconst (v := 0) hx hb d_Tab_begin_9 (by decide) ?_
  obtain ⟨t4, hw⟩ := hw
  refine mx_put (ci := 3) (C := "NetJoins$NetTable") (T := F_Tab) (N := 7) (v := .int (0 : Int32)) (h' := sI h3 305 v0 (0 : Int32)) hx hb hW hown hK.1 hR (a := v0) rfl t4 rfl i_Tab t_Tab t_Tab_ok n_Tab 5 0 (by decide) rfl kw_101 (fun _ h9 => h9) rfl rfl rfl d_Tab_begin_10 rfl (toE_sI (ci := 3) (k := 5) t4 rfl) (fun H locs hR => ?_)
  obtain ⟨h5, eh5⟩ : ∃ z, z = sI h3 305 v0 (0 : Int32) := ⟨_, rfl⟩
  rw [← eh5] at hR
  have hw := hw h5 eh5
  exact mx_vret hx hb hr hlocks hR hw d_Tab_begin_13
set_option maxHeartbeats 4000000 in
set_option maxRecDepth 100000 in
theorem mn_Tab_put_61 {D : va_G} {cs : CS} {Z : Nat → Nat} {h0 : HS} {p : Program} {l : Launch} {e : Env} {s : State} {m : MethodId} {args : Array Value} {below : List Frame} {meth : Method} {c : Code} {v0 : Nat} (C : mC D cs Z h0 y_Tab_put c_Tab_put 3 none p s m args meth c) (post : HS → Prop) : ∀ (x1 : Int32) (h : HS) (H : Heap) (locs : List Loc) (ls : Array Slot), wj_Tab_put_61 Z post v0 x1 h → lv_has ls 3 [(0, va_rf (some v0)), (1, .int x1)] → mR D cs (fA h0 s.heap.size) h s.heap H locs → W p l e ({ frames := 2, cells := 0, slots := 0, locals := 100 } : Room) s m args below meth c H locs 0 0 (MQ below (va_Qv post (mB D cs h0 s.heap.size) (fA h0 s.heap.size)) args s 0 0 (fA h0 s.heap.size)) (F0 m 61 ls []) := by
  obtain ⟨hx, hb, hr, hml, hown, hW, hlocks, hnm, hK, hZ⟩ := id C
  have hown : s.vm.findClass "NetJoins$NetTable" = some m.cls := hown
  have hA : ∀ q, s.heap.size ≤ q → fA h0 s.heap.size q := fun _ h => Or.inr h
  intro x1 h H locs ls hw hl hR
  unfold wj_Tab_put_61 at hw
  refine mx_aload_n (r := some v0) hx hb d_Tab_put_61 rfl (lv_at hl 0 rfl) ?_
  obtain ⟨t1, hw⟩ := hw
  refine mx_get (ci := 3) (C := "NetJoins$NetTable") (T := F_Tab) (N := 7) hx hb hW hown hK.1 hR (a := v0) rfl t1 rfl i_Tab 3 2 (by decide) rfl kw_98 (fun _ h9 => h9) d_Tab_put_62 ?_
  refine mx_aload_n (r := some v0) hx hb d_Tab_put_65 rfl (lv_at hl 0 rfl) ?_
  obtain ⟨t2, hw⟩ := hw
  refine mx_get (ci := 3) (C := "NetJoins$NetTable") (T := F_Tab) (N := 7) hx hb hW hown hK.1 hR (a := v0) rfl t2 rfl i_Tab 2 2 (by decide) rfl kw_96 (fun _ h9 => h9) d_Tab_put_66 ?_
  refine lv_iload_n hx hb d_Tab_put_69 rfl (lv_at hl 1 rfl) ?_
  obtain ⟨a3, ea3, t4, t4i, hw⟩ := hw
  refine mx_iald hx hb hK.1 hR (a := a3) ea3 t4 t4i d_Tab_put_70 ?_
  refine lv_dup2_11 hx hb d_Tab_put_71 rfl (mx_rf_cat _) ?_
  obtain ⟨a5, ea5, t6, t6i, hw⟩ := hw
  refine mx_iald hx hb hK.1 hR (a := a5) ea5 t6 t6i d_Tab_put_72 ?_
  refine lv_iconst (v := 1) hx hb d_Tab_put_73 (by decide) ?_
  refine lv_iadd hx hb d_Tab_put_74 ?_
  obtain ⟨a7, ea7, t8, t8i, hw⟩ := hw
  refine mx_iast hx hb hK.1 hR (a := a7) ea7 t8 t8i d_Tab_put_75 (fun H locs hR => ?_)
  obtain ⟨h9, eh9⟩ : ∃ z, z = sA h a7 (gA h a3 x1.toNatClampNeg).toNatClampNeg ((gA h a5 (gA h a3 x1.toNatClampNeg).toNatClampNeg) + (1 : Int32)) := ⟨_, rfl⟩
  rw [← eh9] at hR
  have hw := hw h9 eh9
  exact mx_vret hx hb hr hlocks hR hw d_Tab_put_76
set_option maxHeartbeats 4000000 in
set_option maxRecDepth 100000 in
theorem mt_Tab_put (l : Launch) (D : va_G) (cs : CS) (Z : Nat → Nat) (sz : Nat) {post : HS → Prop} {h : HS} {v0 : Nat} {x1 : Int32} {x2 : Int32} (hw : wp_Tab_put Z post h v0 x1 x2) : Met l y_Tab_put (Cond.code y_Tab_put c_Tab_put 3 none :: WA) ({ frames := 2, cells := 0, slots := 0, locals := 100 } : Room) (mPc D cs Z h sz [va_rf (some v0), .int x1, .int x2]) (va_Qv post (mB D cs h sz) (fA h sz)) 0 0 (fA h sz) := by
  refine mx_met (fun sz => va_Qv post (mB D cs h sz) (fA h sz)) (by decide) (by simp [lg_sl, mx_rf_cat, cat_i, cat_l]) ?_
  intro p e s m args below meth c C hR ls hl
  have hl : lv_has ls 3 [(0, va_rf (some v0)), (1, .int x1), (2, .int x2)] := hl
  obtain ⟨hx, hb, hr, hml, hown, hW, hlocks, hnm, hK, hZ⟩ := id C
  have hown : s.vm.findClass "NetJoins$NetTable" = some m.cls := hown
  have hA : ∀ q, s.heap.size ≤ q → fA h s.heap.size q := fun _ h => Or.inr h
  unfold wp_Tab_put at hw
  refine mx_aload_n (r := some v0) hx hb d_Tab_put_0 rfl (lv_at hl 0 rfl) ?_
  refine mx_aload_n (r := some v0) hx hb d_Tab_put_1 rfl (lv_at hl 0 rfl) ?_
  obtain ⟨t1, hw⟩ := hw
  refine mx_get (ci := 3) (C := "NetJoins$NetTable") (T := F_Tab) (N := 7) hx hb hW hown hK.1 hR (a := v0) rfl t1 rfl i_Tab 6 0 (by decide) rfl kw_103 (fun _ h9 => h9) d_Tab_put_2 ?_
  refine lv_iload_n hx hb d_Tab_put_5 rfl (lv_at hl 1 rfl) ?_
  refine lv_iconst (v := 1) hx hb d_Tab_put_6 (by decide) ?_
  refine lv_iadd hx hb d_Tab_put_7 ?_
  refine va_mmax hx hb (by rw [hml]; exact hl.1.symm) hown (hW _ kw_402) (hW _ kw_334) (hW _ kw_18) (hW _ kw_335) (Nat.le_of_ble_eq_true rfl) (Nat.le_of_ble_eq_true rfl) (Nat.le_of_ble_eq_true rfl) (Nat.le_of_ble_eq_true rfl) d_Tab_put_8 ?_
  obtain ⟨t2, hw⟩ := hw
  refine mx_put (ci := 3) (C := "NetJoins$NetTable") (T := F_Tab) (N := 7) (v := .int (if (gI h 306 v0) < (x1 + (1 : Int32)) then (x1 + (1 : Int32)) else (gI h 306 v0))) (h' := sI h 306 v0 (if (gI h 306 v0) < (x1 + (1 : Int32)) then (x1 + (1 : Int32)) else (gI h 306 v0))) hx hb hW hown hK.1 hR (a := v0) rfl t2 rfl i_Tab t_Tab t_Tab_ok n_Tab 6 0 (by decide) rfl kw_103 (fun _ h9 => h9) rfl rfl rfl d_Tab_put_11 rfl (toE_sI (ci := 3) (k := 6) t2 rfl) (fun H locs hR => ?_)
  obtain ⟨h3, eh3⟩ : ∃ z, z = sI h 306 v0 (if (gI h 306 v0) < (x1 + (1 : Int32)) then (x1 + (1 : Int32)) else (gI h 306 v0)) := ⟨_, rfl⟩
  rw [← eh3] at hR
  have hw := hw h3 eh3
  refine mx_aload_n (r := some v0) hx hb d_Tab_put_14 rfl (lv_at hl 0 rfl) ?_
  obtain ⟨t4, hw⟩ := hw
  refine mx_get (ci := 3) (C := "NetJoins$NetTable") (T := F_Tab) (N := 7) hx hb hW hown hK.1 hR (a := v0) rfl t4 rfl i_Tab 0 2 (by decide) rfl kw_94 (fun _ h9 => h9) d_Tab_put_15 ?_
  refine lv_iload_n hx hb d_Tab_put_18 rfl (lv_at hl 1 rfl) ?_
  refine lv_iload_n hx hb d_Tab_put_19 rfl (lv_at hl 2 rfl) ?_
  obtain ⟨a5, ea5, t6, t6i, hw⟩ := hw
  refine mx_iast hx hb hK.1 hR (a := a5) ea5 t6 t6i d_Tab_put_20 (fun H locs hR => ?_)
  obtain ⟨h7, eh7⟩ : ∃ z, z = sA h3 a5 x1.toNatClampNeg x2 := ⟨_, rfl⟩
  rw [← eh7] at hR
  have hw := hw h7 eh7
  refine lv_iload_n hx hb d_Tab_put_21 rfl (lv_at hl 2 rfl) ?_
  refine lv_iload_n hx hb d_Tab_put_22 rfl (lv_at hl 1 rfl) ?_
  refine lv_icmp_ne (tgt := 49) hx hb d_Tab_put_23 (by decide) (fun c8 => ?_) (fun c8 => ?_)
  · have hw := hw.1 c8
    refine mx_aload_n (r := some v0) hx hb d_Tab_put_49 rfl (lv_at hl 0 rfl) ?_
    obtain ⟨t9, hw⟩ := hw
    refine mx_get (ci := 3) (C := "NetJoins$NetTable") (T := F_Tab) (N := 7) hx hb hW hown hK.1 hR (a := v0) rfl t9 rfl i_Tab 2 2 (by decide) rfl kw_96 (fun _ h9 => h9) d_Tab_put_50 ?_
    refine lv_iload_n hx hb d_Tab_put_53 rfl (lv_at hl 1 rfl) ?_
    refine mx_aload_n (r := some v0) hx hb d_Tab_put_54 rfl (lv_at hl 0 rfl) ?_
    obtain ⟨t10, hw⟩ := hw
    refine mx_get (ci := 3) (C := "NetJoins$NetTable") (T := F_Tab) (N := 7) hx hb hW hown hK.1 hR (a := v0) rfl t10 rfl i_Tab 2 2 (by decide) rfl kw_96 (fun _ h9 => h9) d_Tab_put_55 ?_
    refine lv_iload_n hx hb d_Tab_put_58 rfl (lv_at hl 2 rfl) ?_
    obtain ⟨a11, ea11, t12, t12i, hw⟩ := hw
    refine mx_iald hx hb hK.1 hR (a := a11) ea11 t12 t12i d_Tab_put_59 ?_
    obtain ⟨a13, ea13, t14, t14i, hw⟩ := hw
    refine mx_iast hx hb hK.1 hR (a := a13) ea13 t14 t14i d_Tab_put_60 (fun H locs hR => ?_)
    obtain ⟨h15, eh15⟩ : ∃ z, z = sA h7 a13 x1.toNatClampNeg (gA h7 a11 x2.toNatClampNeg) := ⟨_, rfl⟩
    rw [← eh15] at hR
    have hw := hw h15 eh15
    exact mn_Tab_put_61 C post x1 _ _ _ _ hw (lv_sub hl [0, 1] rfl) hR
  · have hw := hw.2 c8
    refine mx_aload_n (r := some v0) hx hb d_Tab_put_26 rfl (lv_at hl 0 rfl) ?_
    obtain ⟨t16, hw⟩ := hw
    refine mx_get (ci := 3) (C := "NetJoins$NetTable") (T := F_Tab) (N := 7) hx hb hW hown hK.1 hR (a := v0) rfl t16 rfl i_Tab 2 2 (by decide) rfl kw_96 (fun _ h9 => h9) d_Tab_put_27 ?_
    refine lv_iload_n hx hb d_Tab_put_30 rfl (lv_at hl 1 rfl) ?_
    refine mx_aload_n (r := some v0) hx hb d_Tab_put_31 rfl (lv_at hl 0 rfl) ?_
    obtain ⟨t17, hw⟩ := hw
    refine mx_get (ci := 3) (C := "NetJoins$NetTable") (T := F_Tab) (N := 7) hx hb hW hown hK.1 hR (a := v0) rfl t17 rfl i_Tab 5 0 (by decide) rfl kw_101 (fun _ h9 => h9) d_Tab_put_32 ?_
    obtain ⟨a18, ea18, t19, t19i, hw⟩ := hw
    refine mx_iast hx hb hK.1 hR (a := a18) ea18 t19 t19i d_Tab_put_35 (fun H locs hR => ?_)
    obtain ⟨h20, eh20⟩ : ∃ z, z = sA h7 a18 x1.toNatClampNeg (gI h7 305 v0) := ⟨_, rfl⟩
    rw [← eh20] at hR
    have hw := hw h20 eh20
    refine mx_aload_n (r := some v0) hx hb d_Tab_put_36 rfl (lv_at hl 0 rfl) ?_
    refine lv_dup hx hb d_Tab_put_37 (mx_rf_cat _) ?_
    obtain ⟨t21, hw⟩ := hw
    refine mx_get (ci := 3) (C := "NetJoins$NetTable") (T := F_Tab) (N := 7) hx hb hW hown hK.1 hR (a := v0) rfl t21 rfl i_Tab 5 0 (by decide) rfl kw_101 (fun _ h9 => h9) d_Tab_put_38 ?_
    refine lv_iconst (v := 1) hx hb d_Tab_put_41 (by decide) ?_
    refine lv_iadd hx hb d_Tab_put_42 ?_
    obtain ⟨t22, hw⟩ := hw
    refine mx_put (ci := 3) (C := "NetJoins$NetTable") (T := F_Tab) (N := 7) (v := .int ((gI h20 305 v0) + (1 : Int32))) (h' := sI h20 305 v0 ((gI h20 305 v0) + (1 : Int32))) hx hb hW hown hK.1 hR (a := v0) rfl t22 rfl i_Tab t_Tab t_Tab_ok n_Tab 5 0 (by decide) rfl kw_101 (fun _ h9 => h9) rfl rfl rfl d_Tab_put_43 rfl (toE_sI (ci := 3) (k := 5) t22 rfl) (fun H locs hR => ?_)
    obtain ⟨h23, eh23⟩ : ∃ z, z = sI h20 305 v0 ((gI h20 305 v0) + (1 : Int32)) := ⟨_, rfl⟩
    rw [← eh23] at hR
    have hw := hw h23 eh23
    refine lv_goto (tgt := 61) hx hb d_Tab_put_46 (by decide) ?_
    exact mn_Tab_put_61 C post x1 _ _ _ _ hw (lv_sub hl [0, 1] rfl) hR
set_option maxHeartbeats 4000000 in
set_option maxRecDepth 100000 in
theorem mn_Tab_isAsRemembered_2 {D : va_G} {cs : CS} {Z : Nat → Nat} {h0 : HS} {p : Program} {l : Launch} {e : Env} {s : State} {m : MethodId} {args : Array Value} {below : List Frame} {meth : Method} {c : Code} {v0 : Nat} (C : mC D cs Z h0 y_Tab_isAsRemembered c_Tab_isAsRemembered 2 (some .boolean) p s m args meth c) (post : Int32 → HS → Prop) : ∀ (n : Nat) (x1 : Int32) (h : HS) (H : Heap) (locs : List Loc) (ls : Array Slot), lpF (wb_Tab_isAsRemembered_2 Z post v0) n (x1, h) → lv_has ls 2 [(0, va_rf (some v0)), (1, .int x1)] → mR D cs (fA h0 s.heap.size) h s.heap H locs → W p l e ({ frames := 2, cells := 0, slots := 0, locals := 100 } : Room) s m args below meth c H locs 0 0 (MQ below (va_Qi post (mB D cs h0 s.heap.size) (fA h0 s.heap.size)) args s 0 0 (fA h0 s.heap.size)) (F0 m 2 ls []) := by
  obtain ⟨hx, hb, hr, hml, hown, hW, hlocks, hnm, hK, hZ⟩ := id C
  have hown : s.vm.findClass "NetJoins$NetTable" = some m.cls := hown
  have hA : ∀ q, s.heap.size ≤ q → fA h0 s.heap.size q := fun _ h => Or.inr h
  intro n
  induction n with
  | zero => intro x1 h H locs ls hw; exact hw.elim
  | succ n ih =>
    intro x1 h H locs ls hw hl hR
    have hw : wb_Tab_isAsRemembered_2 Z post v0 (lpF (wb_Tab_isAsRemembered_2 Z post v0) n) (x1, h) := hw
    unfold wb_Tab_isAsRemembered_2 at hw
    dsimp only at hw
    refine lv_iload_n hx hb d_Tab_isAsRemembered_2 rfl (lv_at hl 1 rfl) ?_
    refine mx_aload_n (r := some v0) hx hb d_Tab_isAsRemembered_3 rfl (lv_at hl 0 rfl) ?_
    obtain ⟨t1, hw⟩ := hw
    refine mx_get (ci := 3) (C := "NetJoins$NetTable") (T := F_Tab) (N := 7) hx hb hW hown hK.1 hR (a := v0) rfl t1 rfl i_Tab 6 0 (by decide) rfl kw_103 (fun _ h9 => h9) d_Tab_isAsRemembered_4 ?_
    refine lv_icmp_ge (tgt := 33) hx hb d_Tab_isAsRemembered_7 (by decide) (fun c2 => ?_) (fun c2 => ?_)
    · have hw := hw.1 c2
      refine lv_iconst (v := 1) hx hb d_Tab_isAsRemembered_33 (by decide) ?_
      exact mx_zret hx hb hr hlocks hR (Or.inr rfl) hw d_Tab_isAsRemembered_34
    · have hw := hw.2 c2
      refine mx_aload_n (r := some v0) hx hb d_Tab_isAsRemembered_10 rfl (lv_at hl 0 rfl) ?_
      obtain ⟨t3, hw⟩ := hw
      refine mx_get (ci := 3) (C := "NetJoins$NetTable") (T := F_Tab) (N := 7) hx hb hW hown hK.1 hR (a := v0) rfl t3 rfl i_Tab 0 2 (by decide) rfl kw_94 (fun _ h9 => h9) d_Tab_isAsRemembered_11 ?_
      refine lv_iload_n hx hb d_Tab_isAsRemembered_14 rfl (lv_at hl 1 rfl) ?_
      obtain ⟨a4, ea4, t5, t5i, hw⟩ := hw
      refine mx_iald hx hb hK.1 hR (a := a4) ea4 t5 t5i d_Tab_isAsRemembered_15 ?_
      refine mx_aload_n (r := some v0) hx hb d_Tab_isAsRemembered_16 rfl (lv_at hl 0 rfl) ?_
      obtain ⟨t6, hw⟩ := hw
      refine mx_get (ci := 3) (C := "NetJoins$NetTable") (T := F_Tab) (N := 7) hx hb hW hown hK.1 hR (a := v0) rfl t6 rfl i_Tab 1 2 (by decide) rfl kw_95 (fun _ h9 => h9) d_Tab_isAsRemembered_17 ?_
      refine lv_iload_n hx hb d_Tab_isAsRemembered_20 rfl (lv_at hl 1 rfl) ?_
      obtain ⟨a7, ea7, t8, t8i, hw⟩ := hw
      refine mx_iald hx hb hK.1 hR (a := a7) ea7 t8 t8i d_Tab_isAsRemembered_21 ?_
      refine lv_icmp_eq (tgt := 27) hx hb d_Tab_isAsRemembered_22 (by decide) (fun c9 => ?_) (fun c9 => ?_)
      · have hw := hw.1 c9
        obtain ⟨y10, ey10⟩ : ∃ y : Int32, y = x1 + (1 : Int32) := ⟨_, rfl⟩
        have hw := hw y10 ey10
        refine lv_iinc (v := y10) (lv' := [(1, .int y10), (0, va_rf (some v0))]) hx hb d_Tab_isAsRemembered_27 hl (k := 1) rfl (by rw [ey10]; rfl) (by decide) rfl (fun ls hl => ?_)
        refine lv_goto (tgt := 2) hx hb d_Tab_isAsRemembered_30 (by decide) ?_
        exact ih y10 _ _ _ _ hw (lv_sub hl [1, 0] rfl) hR
      · have hw := hw.2 c9
        refine lv_iconst (v := 0) hx hb d_Tab_isAsRemembered_25 (by decide) ?_
        exact mx_zret hx hb hr hlocks hR (Or.inl rfl) hw d_Tab_isAsRemembered_26
set_option maxHeartbeats 4000000 in
set_option maxRecDepth 100000 in
theorem mt_Tab_isAsRemembered (l : Launch) (D : va_G) (cs : CS) (Z : Nat → Nat) (sz : Nat) {post : Int32 → HS → Prop} {h : HS} {v0 : Nat}  (hw : wp_Tab_isAsRemembered Z post h v0 ) : Met l y_Tab_isAsRemembered (Cond.code y_Tab_isAsRemembered c_Tab_isAsRemembered 2 (some .boolean) :: WA) ({ frames := 2, cells := 0, slots := 0, locals := 100 } : Room) (mPc D cs Z h sz [va_rf (some v0)]) (va_Qi post (mB D cs h sz) (fA h sz)) 0 0 (fA h sz) := by
  refine mx_met (fun sz => va_Qi post (mB D cs h sz) (fA h sz)) (by decide) (by simp [lg_sl, mx_rf_cat, cat_i, cat_l]) ?_
  intro p e s m args below meth c C hR ls hl
  have hl : lv_has ls 2 [(0, va_rf (some v0))] := hl
  obtain ⟨hx, hb, hr, hml, hown, hW, hlocks, hnm, hK, hZ⟩ := id C
  have hown : s.vm.findClass "NetJoins$NetTable" = some m.cls := hown
  have hA : ∀ q, s.heap.size ≤ q → fA h s.heap.size q := fun _ h => Or.inr h
  unfold wp_Tab_isAsRemembered at hw
  refine lv_iconst (v := 0) hx hb d_Tab_isAsRemembered_0 (by decide) ?_
  refine lv_istore_n (i := 1) (lv' := [(1, .int (0 : Int32)), (0, va_rf (some v0))]) hx hb d_Tab_isAsRemembered_1 rfl hl (by decide) rfl (fun ls hl => ?_)
  obtain ⟨n9, hw⟩ := hw
  exact mn_Tab_isAsRemembered_2 C post n9 (0 : Int32) _ _ _ _ hw (lv_sub hl [1, 0] rfl) hR
set_option maxHeartbeats 4000000 in
set_option maxRecDepth 100000 in
theorem mn_Tab_changedNet_31 {D : va_G} {cs : CS} {Z : Nat → Nat} {h0 : HS} {p : Program} {l : Launch} {e : Env} {s : State} {m : MethodId} {args : Array Value} {below : List Frame} {meth : Method} {c : Code} {v0 : Nat} (C : mC D cs Z h0 y_Tab_changedNet c_Tab_changedNet 4 (some .int) p s m args meth c) (post : Int32 → HS → Prop) (K4 : Int32 × Int32 × Int32 × HS → Prop) (hK4 : ∀ (x1 : Int32) (x2 : Int32) (x3 : Int32) (h : HS) (H : Heap) (locs : List Loc) (ls : Array Slot), K4 (x1, x2, x3, h) → lv_has ls 4 [(0, va_rf (some v0)), (1, .int x1), (2, .int x2), (3, .int x3)] → mR D cs (fA h0 s.heap.size) h s.heap H locs → W p l e ({ frames := 2, cells := 0, slots := 0, locals := 100 } : Room) s m args below meth c H locs 0 0 (MQ below (va_Qi post (mB D cs h0 s.heap.size) (fA h0 s.heap.size)) args s 0 0 (fA h0 s.heap.size)) (F0 m 4 ls [])) : ∀ (x1 : Int32) (x2 : Int32) (x3 : Int32) (h : HS) (H : Heap) (locs : List Loc) (ls : Array Slot), wj_Tab_changedNet_31 Z post K4 v0 x1 x2 x3 h → lv_has ls 4 [(0, va_rf (some v0)), (1, .int x1), (2, .int x2), (3, .int x3)] → mR D cs (fA h0 s.heap.size) h s.heap H locs → W p l e ({ frames := 2, cells := 0, slots := 0, locals := 100 } : Room) s m args below meth c H locs 0 0 (MQ below (va_Qi post (mB D cs h0 s.heap.size) (fA h0 s.heap.size)) args s 0 0 (fA h0 s.heap.size)) (F0 m 31 ls []) := by
  obtain ⟨hx, hb, hr, hml, hown, hW, hlocks, hnm, hK, hZ⟩ := id C
  have hown : s.vm.findClass "NetJoins$NetTable" = some m.cls := hown
  have hA : ∀ q, s.heap.size ≤ q → fA h0 s.heap.size q := fun _ h => Or.inr h
  intro x1 x2 x3 h H locs ls hw hl hR
  unfold wj_Tab_changedNet_31 at hw
  obtain ⟨y1, ey1⟩ : ∃ y : Int32, y = x3 + (1 : Int32) := ⟨_, rfl⟩
  have hw := hw y1 ey1
  refine lv_iinc (v := y1) (lv' := [(3, .int y1), (0, va_rf (some v0)), (1, .int x1), (2, .int x2)]) hx hb d_Tab_changedNet_31 hl (k := 3) rfl (by rw [ey1]; rfl) (by decide) rfl (fun ls hl => ?_)
  refine lv_goto (tgt := 4) hx hb d_Tab_changedNet_34 (by decide) ?_
  exact hK4 x1 x2 y1 _ _ _ _ hw (lv_sub hl [1, 2, 3, 0] rfl) hR
set_option maxHeartbeats 4000000 in
set_option maxRecDepth 100000 in
theorem mn_Tab_changedNet_4 {D : va_G} {cs : CS} {Z : Nat → Nat} {h0 : HS} {p : Program} {l : Launch} {e : Env} {s : State} {m : MethodId} {args : Array Value} {below : List Frame} {meth : Method} {c : Code} {v0 : Nat} (C : mC D cs Z h0 y_Tab_changedNet c_Tab_changedNet 4 (some .int) p s m args meth c) (post : Int32 → HS → Prop) : ∀ (n : Nat) (x1 : Int32) (x2 : Int32) (x3 : Int32) (h : HS) (H : Heap) (locs : List Loc) (ls : Array Slot), lpF (wb_Tab_changedNet_4 Z post v0) n (x1, x2, x3, h) → lv_has ls 4 [(0, va_rf (some v0)), (1, .int x1), (2, .int x2), (3, .int x3)] → mR D cs (fA h0 s.heap.size) h s.heap H locs → W p l e ({ frames := 2, cells := 0, slots := 0, locals := 100 } : Room) s m args below meth c H locs 0 0 (MQ below (va_Qi post (mB D cs h0 s.heap.size) (fA h0 s.heap.size)) args s 0 0 (fA h0 s.heap.size)) (F0 m 4 ls []) := by
  obtain ⟨hx, hb, hr, hml, hown, hW, hlocks, hnm, hK, hZ⟩ := id C
  have hown : s.vm.findClass "NetJoins$NetTable" = some m.cls := hown
  have hA : ∀ q, s.heap.size ≤ q → fA h0 s.heap.size q := fun _ h => Or.inr h
  intro n
  induction n with
  | zero => intro x1 x2 x3 h H locs ls hw; exact hw.elim
  | succ n ih =>
    intro x1 x2 x3 h H locs ls hw hl hR
    have hw : wb_Tab_changedNet_4 Z post v0 (lpF (wb_Tab_changedNet_4 Z post v0) n) (x1, x2, x3, h) := hw
    unfold wb_Tab_changedNet_4 at hw
    dsimp only at hw
    refine lv_iload_n hx hb d_Tab_changedNet_4 rfl (lv_at hl 3 rfl) ?_
    refine mx_aload_n (r := some v0) hx hb d_Tab_changedNet_5 rfl (lv_at hl 0 rfl) ?_
    obtain ⟨t1, hw⟩ := hw
    refine mx_get (ci := 3) (C := "NetJoins$NetTable") (T := F_Tab) (N := 7) hx hb hW hown hK.1 hR (a := v0) rfl t1 rfl i_Tab 5 0 (by decide) rfl kw_101 (fun _ h9 => h9) d_Tab_changedNet_6 ?_
    refine lv_icmp_ge (tgt := 37) hx hb d_Tab_changedNet_9 (by decide) (fun c2 => ?_) (fun c2 => ?_)
    · have hw := hw.1 c2
      refine lv_iconst (v := (-1)) hx hb d_Tab_changedNet_37 (by decide) ?_
      exact mx_iret hx hb hr hlocks hR hw d_Tab_changedNet_38
    · have hw := hw.2 c2
      refine mx_aload_n (r := some v0) hx hb d_Tab_changedNet_12 rfl (lv_at hl 0 rfl) ?_
      obtain ⟨t3, hw⟩ := hw
      refine mx_get (ci := 3) (C := "NetJoins$NetTable") (T := F_Tab) (N := 7) hx hb hW hown hK.1 hR (a := v0) rfl t3 rfl i_Tab 4 2 (by decide) rfl kw_100 (fun _ h9 => h9) d_Tab_changedNet_13 ?_
      refine lv_iload_n hx hb d_Tab_changedNet_16 rfl (lv_at hl 3 rfl) ?_
      obtain ⟨a4, ea4, t5, t5i, hw⟩ := hw
      refine mx_zald hx hb hK.1 hR (a := a4) ea4 t5 t5i d_Tab_changedNet_17 ?_
      refine lv_if_eq (tgt := 31) hx hb d_Tab_changedNet_18 (by decide) (fun c6 => ?_) (fun c6 => ?_)
      · have hw := hw.1 c6
        exact mn_Tab_changedNet_31 C post (lpF (wb_Tab_changedNet_4 Z post v0) n) ih x1 x2 x3 _ _ _ _ hw (lv_sub hl [0, 1, 2, 3] rfl) hR
      · have hw := hw.2 c6
        refine lv_iload_n hx hb d_Tab_changedNet_21 rfl (lv_at hl 2 rfl) ?_
        refine lv_iload_n hx hb d_Tab_changedNet_22 rfl (lv_at hl 1 rfl) ?_
        refine lv_icmp_ne (tgt := 28) hx hb d_Tab_changedNet_23 (by decide) (fun c7 => ?_) (fun c7 => ?_)
        · have hw := hw.1 c7
          obtain ⟨y8, ey8⟩ : ∃ y : Int32, y = x2 + (1 : Int32) := ⟨_, rfl⟩
          have hw := hw y8 ey8
          refine lv_iinc (v := y8) (lv' := [(2, .int y8), (0, va_rf (some v0)), (1, .int x1), (3, .int x3)]) hx hb d_Tab_changedNet_28 hl (k := 2) rfl (by rw [ey8]; rfl) (by decide) rfl (fun ls hl => ?_)
          exact mn_Tab_changedNet_31 C post (lpF (wb_Tab_changedNet_4 Z post v0) n) ih x1 y8 x3 _ _ _ _ hw (lv_sub hl [1, 2, 0, 3] rfl) hR
        · have hw := hw.2 c7
          refine lv_iload_n hx hb d_Tab_changedNet_26 rfl (lv_at hl 3 rfl) ?_
          exact mx_iret hx hb hr hlocks hR hw d_Tab_changedNet_27
set_option maxHeartbeats 4000000 in
set_option maxRecDepth 100000 in
theorem mt_Tab_changedNet (l : Launch) (D : va_G) (cs : CS) (Z : Nat → Nat) (sz : Nat) {post : Int32 → HS → Prop} {h : HS} {v0 : Nat} {x1 : Int32} (hw : wp_Tab_changedNet Z post h v0 x1) : Met l y_Tab_changedNet (Cond.code y_Tab_changedNet c_Tab_changedNet 4 (some .int) :: WA) ({ frames := 2, cells := 0, slots := 0, locals := 100 } : Room) (mPc D cs Z h sz [va_rf (some v0), .int x1]) (va_Qi post (mB D cs h sz) (fA h sz)) 0 0 (fA h sz) := by
  refine mx_met (fun sz => va_Qi post (mB D cs h sz) (fA h sz)) (by decide) (by simp [lg_sl, mx_rf_cat, cat_i, cat_l]) ?_
  intro p e s m args below meth c C hR ls hl
  have hl : lv_has ls 4 [(0, va_rf (some v0)), (1, .int x1)] := hl
  obtain ⟨hx, hb, hr, hml, hown, hW, hlocks, hnm, hK, hZ⟩ := id C
  have hown : s.vm.findClass "NetJoins$NetTable" = some m.cls := hown
  have hA : ∀ q, s.heap.size ≤ q → fA h s.heap.size q := fun _ h => Or.inr h
  unfold wp_Tab_changedNet at hw
  refine lv_iconst (v := 0) hx hb d_Tab_changedNet_0 (by decide) ?_
  refine lv_istore_n (i := 2) (lv' := [(2, .int (0 : Int32)), (0, va_rf (some v0)), (1, .int x1)]) hx hb d_Tab_changedNet_1 rfl hl (by decide) rfl (fun ls hl => ?_)
  refine lv_iconst (v := 0) hx hb d_Tab_changedNet_2 (by decide) ?_
  refine lv_istore_n (i := 3) (lv' := [(3, .int (0 : Int32)), (2, .int (0 : Int32)), (0, va_rf (some v0)), (1, .int x1)]) hx hb d_Tab_changedNet_3 rfl hl (by decide) rfl (fun ls hl => ?_)
  obtain ⟨n9, hw⟩ := hw
  exact mn_Tab_changedNet_4 C post n9 x1 (0 : Int32) (0 : Int32) _ _ _ _ hw (lv_sub hl [2, 3, 1, 0] rfl) hR
set_option maxHeartbeats 4000000 in
set_option maxRecDepth 100000 in
theorem mn_Tab_markChanges_79 {D : va_G} {cs : CS} {Z : Nat → Nat} {h0 : HS} {p : Program} {l : Launch} {e : Env} {s : State} {m : MethodId} {args : Array Value} {below : List Frame} {meth : Method} {c : Code} {v0 : Nat} (C : mC D cs Z h0 y_Tab_markChanges c_Tab_markChanges 3 none p s m args meth c) (post : HS → Prop) (K25 : Int32 × HS → Prop) (hK25 : ∀ (x1 : Int32) (h : HS) (H : Heap) (locs : List Loc) (ls : Array Slot), K25 (x1, h) → lv_has ls 3 [(0, va_rf (some v0)), (1, .int x1)] → mR D cs (fA h0 s.heap.size) h s.heap H locs → W p l e ({ frames := 2, cells := 0, slots := 0, locals := 100 } : Room) s m args below meth c H locs 0 0 (MQ below (va_Qv post (mB D cs h0 s.heap.size) (fA h0 s.heap.size)) args s 0 0 (fA h0 s.heap.size)) (F0 m 25 ls [])) : ∀ (x1 : Int32) (h : HS) (H : Heap) (locs : List Loc) (ls : Array Slot), wj_Tab_markChanges_79 Z post K25 v0 x1 h → lv_has ls 3 [(0, va_rf (some v0)), (1, .int x1)] → mR D cs (fA h0 s.heap.size) h s.heap H locs → W p l e ({ frames := 2, cells := 0, slots := 0, locals := 100 } : Room) s m args below meth c H locs 0 0 (MQ below (va_Qv post (mB D cs h0 s.heap.size) (fA h0 s.heap.size)) args s 0 0 (fA h0 s.heap.size)) (F0 m 79 ls []) := by
  obtain ⟨hx, hb, hr, hml, hown, hW, hlocks, hnm, hK, hZ⟩ := id C
  have hown : s.vm.findClass "NetJoins$NetTable" = some m.cls := hown
  have hA : ∀ q, s.heap.size ≤ q → fA h0 s.heap.size q := fun _ h => Or.inr h
  intro x1 h H locs ls hw hl hR
  unfold wj_Tab_markChanges_79 at hw
  obtain ⟨y1, ey1⟩ : ∃ y : Int32, y = x1 + (1 : Int32) := ⟨_, rfl⟩
  have hw := hw y1 ey1
  refine lv_iinc (v := y1) (lv' := [(1, .int y1), (0, va_rf (some v0))]) hx hb d_Tab_markChanges_79 hl (k := 1) rfl (by rw [ey1]; rfl) (by decide) rfl (fun ls hl => ?_)
  refine lv_goto (tgt := 25) hx hb d_Tab_markChanges_82 (by decide) ?_
  exact hK25 y1 _ _ _ _ hw (lv_sub hl [1, 0] rfl) hR
set_option maxHeartbeats 4000000 in
set_option maxRecDepth 100000 in
theorem mn_Tab_markChanges_25 {D : va_G} {cs : CS} {Z : Nat → Nat} {h0 : HS} {p : Program} {l : Launch} {e : Env} {s : State} {m : MethodId} {args : Array Value} {below : List Frame} {meth : Method} {c : Code} {v0 : Nat} (C : mC D cs Z h0 y_Tab_markChanges c_Tab_markChanges 3 none p s m args meth c) (post : HS → Prop) : ∀ (n : Nat) (x1 : Int32) (h : HS) (H : Heap) (locs : List Loc) (ls : Array Slot), lpF (wb_Tab_markChanges_25 Z post v0) n (x1, h) → lv_has ls 3 [(0, va_rf (some v0)), (1, .int x1)] → mR D cs (fA h0 s.heap.size) h s.heap H locs → W p l e ({ frames := 2, cells := 0, slots := 0, locals := 100 } : Room) s m args below meth c H locs 0 0 (MQ below (va_Qv post (mB D cs h0 s.heap.size) (fA h0 s.heap.size)) args s 0 0 (fA h0 s.heap.size)) (F0 m 25 ls []) := by
  obtain ⟨hx, hb, hr, hml, hown, hW, hlocks, hnm, hK, hZ⟩ := id C
  have hown : s.vm.findClass "NetJoins$NetTable" = some m.cls := hown
  have hA : ∀ q, s.heap.size ≤ q → fA h0 s.heap.size q := fun _ h => Or.inr h
  intro n
  induction n with
  | zero => intro x1 h H locs ls hw; exact hw.elim
  | succ n ih =>
    intro x1 h H locs ls hw hl hR
    have hw : wb_Tab_markChanges_25 Z post v0 (lpF (wb_Tab_markChanges_25 Z post v0) n) (x1, h) := hw
    unfold wb_Tab_markChanges_25 at hw
    dsimp only at hw
    refine lv_iload_n hx hb d_Tab_markChanges_25 rfl (lv_at hl 1 rfl) ?_
    refine mx_aload_n (r := some v0) hx hb d_Tab_markChanges_26 rfl (lv_at hl 0 rfl) ?_
    obtain ⟨t1, hw⟩ := hw
    refine mx_get (ci := 3) (C := "NetJoins$NetTable") (T := F_Tab) (N := 7) hx hb hW hown hK.1 hR (a := v0) rfl t1 rfl i_Tab 6 0 (by decide) rfl kw_103 (fun _ h9 => h9) d_Tab_markChanges_27 ?_
    refine lv_icmp_ge (tgt := 85) hx hb d_Tab_markChanges_30 (by decide) (fun c2 => ?_) (fun c2 => ?_)
    · have hw := hw.1 c2
      exact mx_vret hx hb hr hlocks hR hw d_Tab_markChanges_85
    · have hw := hw.2 c2
      refine mx_aload_n (r := some v0) hx hb d_Tab_markChanges_33 rfl (lv_at hl 0 rfl) ?_
      obtain ⟨t3, hw⟩ := hw
      refine mx_get (ci := 3) (C := "NetJoins$NetTable") (T := F_Tab) (N := 7) hx hb hW hown hK.1 hR (a := v0) rfl t3 rfl i_Tab 1 2 (by decide) rfl kw_95 (fun _ h9 => h9) d_Tab_markChanges_34 ?_
      refine lv_iload_n hx hb d_Tab_markChanges_37 rfl (lv_at hl 1 rfl) ?_
      obtain ⟨a4, ea4, t5, t5i, hw⟩ := hw
      refine mx_iald hx hb hK.1 hR (a := a4) ea4 t5 t5i d_Tab_markChanges_38 ?_
      refine lv_topi (fun y6 ey6 => ?_)
      have hw := hw y6 ey6
      refine lv_istore_n (i := 2) (lv' := [(2, .int y6), (0, va_rf (some v0)), (1, .int x1)]) hx hb d_Tab_markChanges_39 rfl hl (by decide) rfl (fun ls hl => ?_)
      refine mx_aload_n (r := some v0) hx hb d_Tab_markChanges_40 rfl (lv_at hl 1 rfl) ?_
      obtain ⟨t7, hw⟩ := hw
      refine mx_get (ci := 3) (C := "NetJoins$NetTable") (T := F_Tab) (N := 7) hx hb hW hown hK.1 hR (a := v0) rfl t7 rfl i_Tab 0 2 (by decide) rfl kw_94 (fun _ h9 => h9) d_Tab_markChanges_41 ?_
      refine lv_iload_n hx hb d_Tab_markChanges_44 rfl (lv_at hl 2 rfl) ?_
      obtain ⟨a8, ea8, t9, t9i, hw⟩ := hw
      refine mx_iald hx hb hK.1 hR (a := a8) ea8 t9 t9i d_Tab_markChanges_45 ?_
      refine lv_iload_n hx hb d_Tab_markChanges_46 rfl (lv_at hl 0 rfl) ?_
      refine lv_icmp_eq (tgt := 79) hx hb d_Tab_markChanges_47 (by decide) (fun c10 => ?_) (fun c10 => ?_)
      · have hw := hw.1 c10
        exact mn_Tab_markChanges_79 C post (lpF (wb_Tab_markChanges_25 Z post v0) n) ih x1 _ _ _ _ hw (lv_sub hl [1, 2] rfl) hR
      · have hw := hw.2 c10
        refine mx_aload_n (r := some v0) hx hb d_Tab_markChanges_50 rfl (lv_at hl 1 rfl) ?_
        obtain ⟨t11, hw⟩ := hw
        refine mx_get (ci := 3) (C := "NetJoins$NetTable") (T := F_Tab) (N := 7) hx hb hW hown hK.1 hR (a := v0) rfl t11 rfl i_Tab 4 2 (by decide) rfl kw_100 (fun _ h9 => h9) d_Tab_markChanges_51 ?_
        refine mx_aload_n (r := some v0) hx hb d_Tab_markChanges_54 rfl (lv_at hl 1 rfl) ?_
        obtain ⟨t12, hw⟩ := hw
        refine mx_get (ci := 3) (C := "NetJoins$NetTable") (T := F_Tab) (N := 7) hx hb hW hown hK.1 hR (a := v0) rfl t12 rfl i_Tab 2 2 (by decide) rfl kw_96 (fun _ h9 => h9) d_Tab_markChanges_55 ?_
        refine lv_iload_n hx hb d_Tab_markChanges_58 rfl (lv_at hl 2 rfl) ?_
        obtain ⟨a13, ea13, t14, t14i, hw⟩ := hw
        refine mx_iald hx hb hK.1 hR (a := a13) ea13 t14 t14i d_Tab_markChanges_59 ?_
        refine lv_iconst (v := 1) hx hb d_Tab_markChanges_60 (by decide) ?_
        obtain ⟨a15, ea15, t16, t16i, hw⟩ := hw
        obtain ⟨z17, hw⟩ := hw
        refine mx_zast hx hb hK.1 hR (a := a15) ea15 t16 z17 t16i d_Tab_markChanges_61 (fun H locs hR => ?_)
        obtain ⟨h18, eh18⟩ : ∃ z, z = sA h a15 (gA h a13 x1.toNatClampNeg).toNatClampNeg (1 : Int32) := ⟨_, rfl⟩
        rw [← eh18] at hR
        have hw := hw h18 eh18
        refine lv_iload_n hx hb d_Tab_markChanges_62 rfl (lv_at hl 0 rfl) ?_
        refine lv_iconst (v := (-1)) hx hb d_Tab_markChanges_63 (by decide) ?_
        refine lv_icmp_eq (tgt := 79) hx hb d_Tab_markChanges_64 (by decide) (fun c19 => ?_) (fun c19 => ?_)
        · have hw := hw.1 c19
          exact mn_Tab_markChanges_79 C post (lpF (wb_Tab_markChanges_25 Z post v0) n) ih x1 _ _ _ _ hw (lv_sub hl [1, 2] rfl) hR
        · have hw := hw.2 c19
          refine mx_aload_n (r := some v0) hx hb d_Tab_markChanges_67 rfl (lv_at hl 1 rfl) ?_
          obtain ⟨t20, hw⟩ := hw
          refine mx_get (ci := 3) (C := "NetJoins$NetTable") (T := F_Tab) (N := 7) hx hb hW hown hK.1 hR (a := v0) rfl t20 rfl i_Tab 4 2 (by decide) rfl kw_100 (fun _ h9 => h9) d_Tab_markChanges_68 ?_
          refine mx_aload_n (r := some v0) hx hb d_Tab_markChanges_71 rfl (lv_at hl 1 rfl) ?_
          obtain ⟨t21, hw⟩ := hw
          refine mx_get (ci := 3) (C := "NetJoins$NetTable") (T := F_Tab) (N := 7) hx hb hW hown hK.1 hR (a := v0) rfl t21 rfl i_Tab 2 2 (by decide) rfl kw_96 (fun _ h9 => h9) d_Tab_markChanges_72 ?_
          refine lv_iload_n hx hb d_Tab_markChanges_75 rfl (lv_at hl 0 rfl) ?_
          obtain ⟨a22, ea22, t23, t23i, hw⟩ := hw
          refine mx_iald hx hb hK.1 hR (a := a22) ea22 t23 t23i d_Tab_markChanges_76 ?_
          refine lv_iconst (v := 1) hx hb d_Tab_markChanges_77 (by decide) ?_
          obtain ⟨a24, ea24, t25, t25i, hw⟩ := hw
          obtain ⟨z26, hw⟩ := hw
          refine mx_zast hx hb hK.1 hR (a := a24) ea24 t25 z26 t25i d_Tab_markChanges_78 (fun H locs hR => ?_)
          obtain ⟨h27, eh27⟩ : ∃ z, z = sA h18 a24 (gA h18 a22 y6.toNatClampNeg).toNatClampNeg (1 : Int32) := ⟨_, rfl⟩
          rw [← eh27] at hR
          have hw := hw h27 eh27
          exact mn_Tab_markChanges_79 C post (lpF (wb_Tab_markChanges_25 Z post v0) n) ih x1 _ _ _ _ hw (lv_sub hl [1, 2] rfl) hR
set_option maxHeartbeats 4000000 in
set_option maxRecDepth 100000 in
theorem mn_Tab_markChanges_2 {D : va_G} {cs : CS} {Z : Nat → Nat} {h0 : HS} {p : Program} {l : Launch} {e : Env} {s : State} {m : MethodId} {args : Array Value} {below : List Frame} {meth : Method} {c : Code} {v0 : Nat} (C : mC D cs Z h0 y_Tab_markChanges c_Tab_markChanges 3 none p s m args meth c) (post : HS → Prop) : ∀ (n : Nat) (x1 : Int32) (h : HS) (H : Heap) (locs : List Loc) (ls : Array Slot), lpF (wb_Tab_markChanges_2 Z post v0) n (x1, h) → lv_has ls 3 [(0, va_rf (some v0)), (1, .int x1)] → mR D cs (fA h0 s.heap.size) h s.heap H locs → W p l e ({ frames := 2, cells := 0, slots := 0, locals := 100 } : Room) s m args below meth c H locs 0 0 (MQ below (va_Qv post (mB D cs h0 s.heap.size) (fA h0 s.heap.size)) args s 0 0 (fA h0 s.heap.size)) (F0 m 2 ls []) := by
  obtain ⟨hx, hb, hr, hml, hown, hW, hlocks, hnm, hK, hZ⟩ := id C
  have hown : s.vm.findClass "NetJoins$NetTable" = some m.cls := hown
  have hA : ∀ q, s.heap.size ≤ q → fA h0 s.heap.size q := fun _ h => Or.inr h
  intro n
  induction n with
  | zero => intro x1 h H locs ls hw; exact hw.elim
  | succ n ih =>
    intro x1 h H locs ls hw hl hR
    have hw : wb_Tab_markChanges_2 Z post v0 (lpF (wb_Tab_markChanges_2 Z post v0) n) (x1, h) := hw
    unfold wb_Tab_markChanges_2 at hw
    dsimp only at hw
    refine lv_iload_n hx hb d_Tab_markChanges_2 rfl (lv_at hl 1 rfl) ?_
    refine mx_aload_n (r := some v0) hx hb d_Tab_markChanges_3 rfl (lv_at hl 0 rfl) ?_
    obtain ⟨t1, hw⟩ := hw
    refine mx_get (ci := 3) (C := "NetJoins$NetTable") (T := F_Tab) (N := 7) hx hb hW hown hK.1 hR (a := v0) rfl t1 rfl i_Tab 6 0 (by decide) rfl kw_103 (fun _ h9 => h9) d_Tab_markChanges_4 ?_
    refine lv_icmp_ge (tgt := 23) hx hb d_Tab_markChanges_7 (by decide) (fun c2 => ?_) (fun c2 => ?_)
    · have hw := hw.1 c2
      refine lv_iconst (v := 0) hx hb d_Tab_markChanges_23 (by decide) ?_
      refine lv_istore_n (i := 1) (lv' := [(1, .int (0 : Int32)), (0, va_rf (some v0))]) hx hb d_Tab_markChanges_24 rfl hl (by decide) rfl (fun ls hl => ?_)
      obtain ⟨n9, hw⟩ := hw
      exact mn_Tab_markChanges_25 C post n9 (0 : Int32) _ _ _ _ hw (lv_sub hl [1, 0] rfl) hR
    · have hw := hw.2 c2
      refine mx_aload_n (r := some v0) hx hb d_Tab_markChanges_10 rfl (lv_at hl 0 rfl) ?_
      obtain ⟨t3, hw⟩ := hw
      refine mx_get (ci := 3) (C := "NetJoins$NetTable") (T := F_Tab) (N := 7) hx hb hW hown hK.1 hR (a := v0) rfl t3 rfl i_Tab 4 2 (by decide) rfl kw_100 (fun _ h9 => h9) d_Tab_markChanges_11 ?_
      refine lv_iload_n hx hb d_Tab_markChanges_14 rfl (lv_at hl 1 rfl) ?_
      refine lv_iconst (v := 0) hx hb d_Tab_markChanges_15 (by decide) ?_
      obtain ⟨a4, ea4, t5, t5i, hw⟩ := hw
      obtain ⟨z6, hw⟩ := hw
      refine mx_zast hx hb hK.1 hR (a := a4) ea4 t5 z6 t5i d_Tab_markChanges_16 (fun H locs hR => ?_)
      obtain ⟨h7, eh7⟩ : ∃ z, z = sA h a4 x1.toNatClampNeg (0 : Int32) := ⟨_, rfl⟩
      rw [← eh7] at hR
      have hw := hw h7 eh7
      obtain ⟨y8, ey8⟩ : ∃ y : Int32, y = x1 + (1 : Int32) := ⟨_, rfl⟩
      have hw := hw y8 ey8
      refine lv_iinc (v := y8) (lv' := [(1, .int y8), (0, va_rf (some v0))]) hx hb d_Tab_markChanges_17 hl (k := 1) rfl (by rw [ey8]; rfl) (by decide) rfl (fun ls hl => ?_)
      refine lv_goto (tgt := 2) hx hb d_Tab_markChanges_20 (by decide) ?_
      exact ih y8 _ _ _ _ hw (lv_sub hl [1, 0] rfl) hR
set_option maxHeartbeats 4000000 in
set_option maxRecDepth 100000 in
theorem mt_Tab_markChanges (l : Launch) (D : va_G) (cs : CS) (Z : Nat → Nat) (sz : Nat) {post : HS → Prop} {h : HS} {v0 : Nat}  (hw : wp_Tab_markChanges Z post h v0 ) : Met l y_Tab_markChanges (Cond.code y_Tab_markChanges c_Tab_markChanges 3 none :: WA) ({ frames := 2, cells := 0, slots := 0, locals := 100 } : Room) (mPc D cs Z h sz [va_rf (some v0)]) (va_Qv post (mB D cs h sz) (fA h sz)) 0 0 (fA h sz) := by
  refine mx_met (fun sz => va_Qv post (mB D cs h sz) (fA h sz)) (by decide) (by simp [lg_sl, mx_rf_cat, cat_i, cat_l]) ?_
  intro p e s m args below meth c C hR ls hl
  have hl : lv_has ls 3 [(0, va_rf (some v0))] := hl
  obtain ⟨hx, hb, hr, hml, hown, hW, hlocks, hnm, hK, hZ⟩ := id C
  have hown : s.vm.findClass "NetJoins$NetTable" = some m.cls := hown
  have hA : ∀ q, s.heap.size ≤ q → fA h s.heap.size q := fun _ h => Or.inr h
  unfold wp_Tab_markChanges at hw
  refine lv_iconst (v := 0) hx hb d_Tab_markChanges_0 (by decide) ?_
  refine lv_istore_n (i := 1) (lv' := [(1, .int (0 : Int32)), (0, va_rf (some v0))]) hx hb d_Tab_markChanges_1 rfl hl (by decide) rfl (fun ls hl => ?_)
  obtain ⟨n9, hw⟩ := hw
  exact mn_Tab_markChanges_2 C post n9 (0 : Int32) _ _ _ _ hw (lv_sub hl [1, 0] rfl) hR
set_option maxHeartbeats 4000000 in
set_option maxRecDepth 100000 in
theorem mn_Tab_leastPin_35 {D : va_G} {cs : CS} {Z : Nat → Nat} {h0 : HS} {p : Program} {l : Launch} {e : Env} {s : State} {m : MethodId} {args : Array Value} {below : List Frame} {meth : Method} {c : Code} {v0 : Nat} (C : mC D cs Z h0 y_Tab_leastPin c_Tab_leastPin 3 (some .int) p s m args meth c) (post : Int32 → HS → Prop) (K2 : Int32 × Int32 × HS → Prop) (hK2 : ∀ (x1 : Int32) (x2 : Int32) (h : HS) (H : Heap) (locs : List Loc) (ls : Array Slot), K2 (x1, x2, h) → lv_has ls 3 [(0, va_rf (some v0)), (1, .int x1), (2, .int x2)] → mR D cs (fA h0 s.heap.size) h s.heap H locs → W p l e ({ frames := 2, cells := 0, slots := 0, locals := 100 } : Room) s m args below meth c H locs 0 0 (MQ below (va_Qi post (mB D cs h0 s.heap.size) (fA h0 s.heap.size)) args s 0 0 (fA h0 s.heap.size)) (F0 m 2 ls [])) : ∀ (x1 : Int32) (x2 : Int32) (h : HS) (H : Heap) (locs : List Loc) (ls : Array Slot), wj_Tab_leastPin_35 Z post K2 v0 x1 x2 h → lv_has ls 3 [(0, va_rf (some v0)), (1, .int x1), (2, .int x2)] → mR D cs (fA h0 s.heap.size) h s.heap H locs → W p l e ({ frames := 2, cells := 0, slots := 0, locals := 100 } : Room) s m args below meth c H locs 0 0 (MQ below (va_Qi post (mB D cs h0 s.heap.size) (fA h0 s.heap.size)) args s 0 0 (fA h0 s.heap.size)) (F0 m 35 ls []) := by
  obtain ⟨hx, hb, hr, hml, hown, hW, hlocks, hnm, hK, hZ⟩ := id C
  have hown : s.vm.findClass "NetJoins$NetTable" = some m.cls := hown
  have hA : ∀ q, s.heap.size ≤ q → fA h0 s.heap.size q := fun _ h => Or.inr h
  intro x1 x2 h H locs ls hw hl hR
  unfold wj_Tab_leastPin_35 at hw
  obtain ⟨y1, ey1⟩ : ∃ y : Int32, y = x2 + (1 : Int32) := ⟨_, rfl⟩
  have hw := hw y1 ey1
  refine lv_iinc (v := y1) (lv' := [(2, .int y1), (0, va_rf (some v0)), (1, .int x1)]) hx hb d_Tab_leastPin_35 hl (k := 2) rfl (by rw [ey1]; rfl) (by decide) rfl (fun ls hl => ?_)
  refine lv_goto (tgt := 2) hx hb d_Tab_leastPin_38 (by decide) ?_
  exact hK2 x1 y1 _ _ _ _ hw (lv_sub hl [1, 2, 0] rfl) hR
set_option maxHeartbeats 4000000 in
set_option maxRecDepth 100000 in
theorem mn_Tab_leastPin_2 {D : va_G} {cs : CS} {Z : Nat → Nat} {h0 : HS} {p : Program} {l : Launch} {e : Env} {s : State} {m : MethodId} {args : Array Value} {below : List Frame} {meth : Method} {c : Code} {v0 : Nat} (C : mC D cs Z h0 y_Tab_leastPin c_Tab_leastPin 3 (some .int) p s m args meth c) (post : Int32 → HS → Prop) : ∀ (n : Nat) (x1 : Int32) (x2 : Int32) (h : HS) (H : Heap) (locs : List Loc) (ls : Array Slot), lpF (wb_Tab_leastPin_2 Z post v0) n (x1, x2, h) → lv_has ls 3 [(0, va_rf (some v0)), (1, .int x1), (2, .int x2)] → mR D cs (fA h0 s.heap.size) h s.heap H locs → W p l e ({ frames := 2, cells := 0, slots := 0, locals := 100 } : Room) s m args below meth c H locs 0 0 (MQ below (va_Qi post (mB D cs h0 s.heap.size) (fA h0 s.heap.size)) args s 0 0 (fA h0 s.heap.size)) (F0 m 2 ls []) := by
  obtain ⟨hx, hb, hr, hml, hown, hW, hlocks, hnm, hK, hZ⟩ := id C
  have hown : s.vm.findClass "NetJoins$NetTable" = some m.cls := hown
  have hA : ∀ q, s.heap.size ≤ q → fA h0 s.heap.size q := fun _ h => Or.inr h
  intro n
  induction n with
  | zero => intro x1 x2 h H locs ls hw; exact hw.elim
  | succ n ih =>
    intro x1 x2 h H locs ls hw hl hR
    have hw : wb_Tab_leastPin_2 Z post v0 (lpF (wb_Tab_leastPin_2 Z post v0) n) (x1, x2, h) := hw
    unfold wb_Tab_leastPin_2 at hw
    dsimp only at hw
    refine lv_iload_n hx hb d_Tab_leastPin_2 rfl (lv_at hl 2 rfl) ?_
    refine mx_aload_n (r := some v0) hx hb d_Tab_leastPin_3 rfl (lv_at hl 0 rfl) ?_
    obtain ⟨t1, hw⟩ := hw
    refine mx_get (ci := 3) (C := "NetJoins$NetTable") (T := F_Tab) (N := 7) hx hb hW hown hK.1 hR (a := v0) rfl t1 rfl i_Tab 6 0 (by decide) rfl kw_103 (fun _ h9 => h9) d_Tab_leastPin_4 ?_
    refine lv_icmp_ge (tgt := 41) hx hb d_Tab_leastPin_7 (by decide) (fun c2 => ?_) (fun c2 => ?_)
    · have hw := hw.1 c2
      refine lv_iconst (v := (-1)) hx hb d_Tab_leastPin_41 (by decide) ?_
      exact mx_iret hx hb hr hlocks hR hw d_Tab_leastPin_42
    · have hw := hw.2 c2
      refine mx_aload_n (r := some v0) hx hb d_Tab_leastPin_10 rfl (lv_at hl 0 rfl) ?_
      obtain ⟨t3, hw⟩ := hw
      refine mx_get (ci := 3) (C := "NetJoins$NetTable") (T := F_Tab) (N := 7) hx hb hW hown hK.1 hR (a := v0) rfl t3 rfl i_Tab 0 2 (by decide) rfl kw_94 (fun _ h9 => h9) d_Tab_leastPin_11 ?_
      refine lv_iload_n hx hb d_Tab_leastPin_14 rfl (lv_at hl 2 rfl) ?_
      obtain ⟨a4, ea4, t5, t5i, hw⟩ := hw
      refine mx_iald hx hb hK.1 hR (a := a4) ea4 t5 t5i d_Tab_leastPin_15 ?_
      refine lv_iload_n hx hb d_Tab_leastPin_16 rfl (lv_at hl 2 rfl) ?_
      refine lv_icmp_ne (tgt := 35) hx hb d_Tab_leastPin_17 (by decide) (fun c6 => ?_) (fun c6 => ?_)
      · have hw := hw.1 c6
        exact mn_Tab_leastPin_35 C post (lpF (wb_Tab_leastPin_2 Z post v0) n) ih x1 x2 _ _ _ _ hw (lv_sub hl [0, 1, 2] rfl) hR
      · have hw := hw.2 c6
        refine mx_aload_n (r := some v0) hx hb d_Tab_leastPin_20 rfl (lv_at hl 0 rfl) ?_
        obtain ⟨t7, hw⟩ := hw
        refine mx_get (ci := 3) (C := "NetJoins$NetTable") (T := F_Tab) (N := 7) hx hb hW hown hK.1 hR (a := v0) rfl t7 rfl i_Tab 2 2 (by decide) rfl kw_96 (fun _ h9 => h9) d_Tab_leastPin_21 ?_
        refine lv_iload_n hx hb d_Tab_leastPin_24 rfl (lv_at hl 2 rfl) ?_
        obtain ⟨a8, ea8, t9, t9i, hw⟩ := hw
        refine mx_iald hx hb hK.1 hR (a := a8) ea8 t9 t9i d_Tab_leastPin_25 ?_
        refine lv_iload_n hx hb d_Tab_leastPin_26 rfl (lv_at hl 1 rfl) ?_
        refine lv_icmp_ne (tgt := 35) hx hb d_Tab_leastPin_27 (by decide) (fun c10 => ?_) (fun c10 => ?_)
        · have hw := hw.1 c10
          exact mn_Tab_leastPin_35 C post (lpF (wb_Tab_leastPin_2 Z post v0) n) ih x1 x2 _ _ _ _ hw (lv_sub hl [0, 1, 2] rfl) hR
        · have hw := hw.2 c10
          refine lv_iload_n hx hb d_Tab_leastPin_30 rfl (lv_at hl 2 rfl) ?_
          refine lv_bipush (v := 16) hx hb d_Tab_leastPin_31 (by decide) ?_
          obtain ⟨t11, hw⟩ := hw
          refine lv_idiv hx hb d_Tab_leastPin_33 t11 ?_
          exact mx_iret hx hb hr hlocks hR hw d_Tab_leastPin_34
set_option maxHeartbeats 4000000 in
set_option maxRecDepth 100000 in
theorem mt_Tab_leastPin (l : Launch) (D : va_G) (cs : CS) (Z : Nat → Nat) (sz : Nat) {post : Int32 → HS → Prop} {h : HS} {v0 : Nat} {x1 : Int32} (hw : wp_Tab_leastPin Z post h v0 x1) : Met l y_Tab_leastPin (Cond.code y_Tab_leastPin c_Tab_leastPin 3 (some .int) :: WA) ({ frames := 2, cells := 0, slots := 0, locals := 100 } : Room) (mPc D cs Z h sz [va_rf (some v0), .int x1]) (va_Qi post (mB D cs h sz) (fA h sz)) 0 0 (fA h sz) := by
  refine mx_met (fun sz => va_Qi post (mB D cs h sz) (fA h sz)) (by decide) (by simp [lg_sl, mx_rf_cat, cat_i, cat_l]) ?_
  intro p e s m args below meth c C hR ls hl
  have hl : lv_has ls 3 [(0, va_rf (some v0)), (1, .int x1)] := hl
  obtain ⟨hx, hb, hr, hml, hown, hW, hlocks, hnm, hK, hZ⟩ := id C
  have hown : s.vm.findClass "NetJoins$NetTable" = some m.cls := hown
  have hA : ∀ q, s.heap.size ≤ q → fA h s.heap.size q := fun _ h => Or.inr h
  unfold wp_Tab_leastPin at hw
  refine lv_iconst (v := 0) hx hb d_Tab_leastPin_0 (by decide) ?_
  refine lv_istore_n (i := 2) (lv' := [(2, .int (0 : Int32)), (0, va_rf (some v0)), (1, .int x1)]) hx hb d_Tab_leastPin_1 rfl hl (by decide) rfl (fun ls hl => ?_)
  obtain ⟨n9, hw⟩ := hw
  exact mn_Tab_leastPin_2 C post n9 x1 (0 : Int32) _ _ _ _ hw (lv_sub hl [1, 2, 0] rfl) hR
set_option maxHeartbeats 4000000 in
set_option maxRecDepth 100000 in
theorem mn_Tab_changedCount_24 {D : va_G} {cs : CS} {Z : Nat → Nat} {h0 : HS} {p : Program} {l : Launch} {e : Env} {s : State} {m : MethodId} {args : Array Value} {below : List Frame} {meth : Method} {c : Code} {v0 : Nat} (C : mC D cs Z h0 y_Tab_changedCount c_Tab_changedCount 3 (some .int) p s m args meth c) (post : Int32 → HS → Prop) (K4 : Int32 × Int32 × HS → Prop) (hK4 : ∀ (x1 : Int32) (x2 : Int32) (h : HS) (H : Heap) (locs : List Loc) (ls : Array Slot), K4 (x1, x2, h) → lv_has ls 3 [(0, va_rf (some v0)), (1, .int x1), (2, .int x2)] → mR D cs (fA h0 s.heap.size) h s.heap H locs → W p l e ({ frames := 2, cells := 0, slots := 0, locals := 100 } : Room) s m args below meth c H locs 0 0 (MQ below (va_Qi post (mB D cs h0 s.heap.size) (fA h0 s.heap.size)) args s 0 0 (fA h0 s.heap.size)) (F0 m 4 ls [])) : ∀ (x1 : Int32) (x2 : Int32) (h : HS) (H : Heap) (locs : List Loc) (ls : Array Slot), wj_Tab_changedCount_24 Z post K4 v0 x1 x2 h → lv_has ls 3 [(0, va_rf (some v0)), (1, .int x1), (2, .int x2)] → mR D cs (fA h0 s.heap.size) h s.heap H locs → W p l e ({ frames := 2, cells := 0, slots := 0, locals := 100 } : Room) s m args below meth c H locs 0 0 (MQ below (va_Qi post (mB D cs h0 s.heap.size) (fA h0 s.heap.size)) args s 0 0 (fA h0 s.heap.size)) (F0 m 24 ls []) := by
  obtain ⟨hx, hb, hr, hml, hown, hW, hlocks, hnm, hK, hZ⟩ := id C
  have hown : s.vm.findClass "NetJoins$NetTable" = some m.cls := hown
  have hA : ∀ q, s.heap.size ≤ q → fA h0 s.heap.size q := fun _ h => Or.inr h
  intro x1 x2 h H locs ls hw hl hR
  unfold wj_Tab_changedCount_24 at hw
  obtain ⟨y1, ey1⟩ : ∃ y : Int32, y = x2 + (1 : Int32) := ⟨_, rfl⟩
  have hw := hw y1 ey1
  refine lv_iinc (v := y1) (lv' := [(2, .int y1), (0, va_rf (some v0)), (1, .int x1)]) hx hb d_Tab_changedCount_24 hl (k := 2) rfl (by rw [ey1]; rfl) (by decide) rfl (fun ls hl => ?_)
  refine lv_goto (tgt := 4) hx hb d_Tab_changedCount_27 (by decide) ?_
  exact hK4 x1 y1 _ _ _ _ hw (lv_sub hl [1, 2, 0] rfl) hR
set_option maxHeartbeats 4000000 in
set_option maxRecDepth 100000 in
theorem mn_Tab_changedCount_4 {D : va_G} {cs : CS} {Z : Nat → Nat} {h0 : HS} {p : Program} {l : Launch} {e : Env} {s : State} {m : MethodId} {args : Array Value} {below : List Frame} {meth : Method} {c : Code} {v0 : Nat} (C : mC D cs Z h0 y_Tab_changedCount c_Tab_changedCount 3 (some .int) p s m args meth c) (post : Int32 → HS → Prop) : ∀ (n : Nat) (x1 : Int32) (x2 : Int32) (h : HS) (H : Heap) (locs : List Loc) (ls : Array Slot), lpF (wb_Tab_changedCount_4 Z post v0) n (x1, x2, h) → lv_has ls 3 [(0, va_rf (some v0)), (1, .int x1), (2, .int x2)] → mR D cs (fA h0 s.heap.size) h s.heap H locs → W p l e ({ frames := 2, cells := 0, slots := 0, locals := 100 } : Room) s m args below meth c H locs 0 0 (MQ below (va_Qi post (mB D cs h0 s.heap.size) (fA h0 s.heap.size)) args s 0 0 (fA h0 s.heap.size)) (F0 m 4 ls []) := by
  obtain ⟨hx, hb, hr, hml, hown, hW, hlocks, hnm, hK, hZ⟩ := id C
  have hown : s.vm.findClass "NetJoins$NetTable" = some m.cls := hown
  have hA : ∀ q, s.heap.size ≤ q → fA h0 s.heap.size q := fun _ h => Or.inr h
  intro n
  induction n with
  | zero => intro x1 x2 h H locs ls hw; exact hw.elim
  | succ n ih =>
    intro x1 x2 h H locs ls hw hl hR
    have hw : wb_Tab_changedCount_4 Z post v0 (lpF (wb_Tab_changedCount_4 Z post v0) n) (x1, x2, h) := hw
    unfold wb_Tab_changedCount_4 at hw
    dsimp only at hw
    refine lv_iload_n hx hb d_Tab_changedCount_4 rfl (lv_at hl 2 rfl) ?_
    refine mx_aload_n (r := some v0) hx hb d_Tab_changedCount_5 rfl (lv_at hl 0 rfl) ?_
    obtain ⟨t1, hw⟩ := hw
    refine mx_get (ci := 3) (C := "NetJoins$NetTable") (T := F_Tab) (N := 7) hx hb hW hown hK.1 hR (a := v0) rfl t1 rfl i_Tab 5 0 (by decide) rfl kw_101 (fun _ h9 => h9) d_Tab_changedCount_6 ?_
    refine lv_icmp_ge (tgt := 30) hx hb d_Tab_changedCount_9 (by decide) (fun c2 => ?_) (fun c2 => ?_)
    · have hw := hw.1 c2
      refine lv_iload_n hx hb d_Tab_changedCount_30 rfl (lv_at hl 1 rfl) ?_
      exact mx_iret hx hb hr hlocks hR hw d_Tab_changedCount_31
    · have hw := hw.2 c2
      refine mx_aload_n (r := some v0) hx hb d_Tab_changedCount_12 rfl (lv_at hl 0 rfl) ?_
      obtain ⟨t3, hw⟩ := hw
      refine mx_get (ci := 3) (C := "NetJoins$NetTable") (T := F_Tab) (N := 7) hx hb hW hown hK.1 hR (a := v0) rfl t3 rfl i_Tab 4 2 (by decide) rfl kw_100 (fun _ h9 => h9) d_Tab_changedCount_13 ?_
      refine lv_iload_n hx hb d_Tab_changedCount_16 rfl (lv_at hl 2 rfl) ?_
      obtain ⟨a4, ea4, t5, t5i, hw⟩ := hw
      refine mx_zald hx hb hK.1 hR (a := a4) ea4 t5 t5i d_Tab_changedCount_17 ?_
      refine lv_if_eq (tgt := 24) hx hb d_Tab_changedCount_18 (by decide) (fun c6 => ?_) (fun c6 => ?_)
      · have hw := hw.1 c6
        exact mn_Tab_changedCount_24 C post (lpF (wb_Tab_changedCount_4 Z post v0) n) ih x1 x2 _ _ _ _ hw (lv_sub hl [0, 1, 2] rfl) hR
      · have hw := hw.2 c6
        obtain ⟨y7, ey7⟩ : ∃ y : Int32, y = x1 + (1 : Int32) := ⟨_, rfl⟩
        have hw := hw y7 ey7
        refine lv_iinc (v := y7) (lv' := [(1, .int y7), (0, va_rf (some v0)), (2, .int x2)]) hx hb d_Tab_changedCount_21 hl (k := 1) rfl (by rw [ey7]; rfl) (by decide) rfl (fun ls hl => ?_)
        exact mn_Tab_changedCount_24 C post (lpF (wb_Tab_changedCount_4 Z post v0) n) ih y7 x2 _ _ _ _ hw (lv_sub hl [1, 0, 2] rfl) hR
set_option maxHeartbeats 4000000 in
set_option maxRecDepth 100000 in
theorem mt_Tab_changedCount (l : Launch) (D : va_G) (cs : CS) (Z : Nat → Nat) (sz : Nat) {post : Int32 → HS → Prop} {h : HS} {v0 : Nat}  (hw : wp_Tab_changedCount Z post h v0 ) : Met l y_Tab_changedCount (Cond.code y_Tab_changedCount c_Tab_changedCount 3 (some .int) :: WA) ({ frames := 2, cells := 0, slots := 0, locals := 100 } : Room) (mPc D cs Z h sz [va_rf (some v0)]) (va_Qi post (mB D cs h sz) (fA h sz)) 0 0 (fA h sz) := by
  refine mx_met (fun sz => va_Qi post (mB D cs h sz) (fA h sz)) (by decide) (by simp [lg_sl, mx_rf_cat, cat_i, cat_l]) ?_
  intro p e s m args below meth c C hR ls hl
  have hl : lv_has ls 3 [(0, va_rf (some v0))] := hl
  obtain ⟨hx, hb, hr, hml, hown, hW, hlocks, hnm, hK, hZ⟩ := id C
  have hown : s.vm.findClass "NetJoins$NetTable" = some m.cls := hown
  have hA : ∀ q, s.heap.size ≤ q → fA h s.heap.size q := fun _ h => Or.inr h
  unfold wp_Tab_changedCount at hw
  refine lv_iconst (v := 0) hx hb d_Tab_changedCount_0 (by decide) ?_
  refine lv_istore_n (i := 1) (lv' := [(1, .int (0 : Int32)), (0, va_rf (some v0))]) hx hb d_Tab_changedCount_1 rfl hl (by decide) rfl (fun ls hl => ?_)
  refine lv_iconst (v := 0) hx hb d_Tab_changedCount_2 (by decide) ?_
  refine lv_istore_n (i := 2) (lv' := [(2, .int (0 : Int32)), (1, .int (0 : Int32)), (0, va_rf (some v0))]) hx hb d_Tab_changedCount_3 rfl hl (by decide) rfl (fun ls hl => ?_)
  obtain ⟨n9, hw⟩ := hw
  exact mn_Tab_changedCount_4 C post n9 (0 : Int32) (0 : Int32) _ _ _ _ hw (lv_sub hl [2, 1, 0] rfl) hR
