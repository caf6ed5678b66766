set_option maxHeartbeats 4000000 in
set_option maxRecDepth 100000 in
theorem mt_Joins_node (l : Launch) (D : va_G) (cs : CS) (Z : Nat → Nat) (sz : Nat) {post : Int32 → HS → Prop} {h : HS} {x0 : Int32} {x1 : Int32} (hw : wp_Joins_node Z post h x0 x1) : Met l y_Joins_node (Cond.code y_Joins_node c_Joins_node 2 (some .int) :: WA) ({ frames := 2, cells := 0, slots := 0, locals := 100 } : Room) (mPc D cs Z h sz [.int x0, .int x1]) (va_Qi post (mB D cs h sz) (fA h sz)) 0 0 (fA h sz) := by
  refine mx_met (fun sz => va_Qi post (mB D cs h sz) (fA h sz)) (by decide) (by simp [lg_sl, mx_rf_cat, cat_i, cat_l]) ?_
  intro p e s m args below meth c C hR ls hl
  have hl : lv_has ls 2 [(0, .int x0), (1, .int x1)] := hl
  obtain ⟨hx, hb, hr, hml, hown, hW, hlocks, hnm, hK, hZ⟩ := id C
  have hown : s.vm.findClass "NetJoins$Joins" = some m.cls := hown
  have hA : ∀ q, s.heap.size ≤ q → fA h s.heap.size q := fun _ h => Or.inr h
  unfold wp_Joins_node at hw
  refine lv_iload_n hx hb d_Joins_node_0 rfl (lv_at hl 0 rfl) ?_
  refine lv_bipush (v := 11) hx hb d_Joins_node_1 (by decide) ?_
  refine lv_ishl hx hb d_Joins_node_3 ?_
  refine lv_iload_n hx hb d_Joins_node_4 rfl (lv_at hl 1 rfl) ?_
  refine lv_iadd hx hb d_Joins_node_5 ?_
  exact mx_iret hx hb hr hlocks hR hw d_Joins_node_6
set_option maxHeartbeats 4000000 in
set_option maxRecDepth 100000 in
theorem mn_Joins_scatterRow_9 {D : va_G} {cs : CS} {Z : Nat → Nat} {h0 : HS} {p : Program} {l : Launch} {e : Env} {s : State} {m : MethodId} {args : Array Value} {below : List Frame} {meth : Method} {c : Code} {v0 : Nat} (C : mC D cs Z h0 y_Joins_scatterRow c_Joins_scatterRow 4 none p s m args meth c) (post : HS → Prop) : ∀ (n : Nat) (x1 : Int32) (x2 : Option Nat) (x3 : Int32) (h : HS) (H : Heap) (locs : List Loc) (ls : Array Slot), lpF (wb_Joins_scatterRow_9 Z post v0) n (x1, x2, x3, h) → lv_has ls 4 [(1, .int x1), (2, va_rf x2), (3, .int x3)] → mR D cs (fA h0 s.heap.size) h s.heap H locs → W p l e ({ frames := 3, cells := 0, slots := 0, locals := 121 } : Room) s m args below meth c H locs 0 0 (MQ below (va_Qv post (mB D cs h0 s.heap.size) (fA h0 s.heap.size)) args s 0 0 (fA h0 s.heap.size)) (F0 m 9 ls []) := by
  obtain ⟨hx, hb, hr, hml, hown, hW, hlocks, hnm, hK, hZ⟩ := id C
  have hown : s.vm.findClass "NetJoins$Joins" = some m.cls := hown
  have hA : ∀ q, s.heap.size ≤ q → fA h0 s.heap.size q := fun _ h => Or.inr h
  intro n
  induction n with
  | zero => intro x1 x2 x3 h H locs ls hw; exact hw.elim
  | succ n ih =>
    intro x1 x2 x3 h H locs ls hw hl hR
    have hw : wb_Joins_scatterRow_9 Z post v0 (lpF (wb_Joins_scatterRow_9 Z post v0) n) (x1, x2, x3, h) := hw
    unfold wb_Joins_scatterRow_9 at hw
    dsimp only at hw
    refine lv_iload_n hx hb d_Joins_scatterRow_9 rfl (lv_at hl 2 rfl) ?_
    refine mx_aload_n (r := x2) hx hb d_Joins_scatterRow_10 rfl (lv_at hl 1 rfl) ?_
    obtain ⟨a1, ea1, t2, t2i, hw⟩ := hw
    refine mx_alen hx hb hK.1 hR (a := a1) ea1 t2 t2i d_Joins_scatterRow_11 ?_
    refine lv_icmp_ge (tgt := 29) hx hb d_Joins_scatterRow_12 (by decide) (fun c3 => ?_) (fun c3 => ?_)
    · have hw := hw.1 c3
      exact mx_vret hx hb hr hlocks hR hw d_Joins_scatterRow_29
    · have hw := hw.2 c3
      refine mx_aload_n (r := x2) hx hb d_Joins_scatterRow_15 rfl (lv_at hl 1 rfl) ?_
      refine lv_iload_n hx hb d_Joins_scatterRow_16 rfl (lv_at hl 2 rfl) ?_
      refine lv_iload_n hx hb d_Joins_scatterRow_17 rfl (lv_at hl 0 rfl) ?_
      refine lv_iload_n hx hb d_Joins_scatterRow_18 rfl (lv_at hl 2 rfl) ?_
      refine mx_calli (va_runS (As := [.int x1, .int x3]) (rest := [.int x3, va_rf x2]) ⟨hx, hb, hml, hown, hW⟩ (mt_Joins_node l D cs Z _ hw) (mx_cwS hW ok_Joins_node kw_77 rfl rfl ⟨Nat.le_of_ble_eq_true rfl, Nat.le_of_ble_eq_true rfl⟩) (mx_preS hK hZ hA hR) rfl rfl hl.1 rfl (lv_room (by simp [mx_rf_cat, cat_i, cat_l])) d_Joins_scatterRow_19 ⟨Nat.le_of_ble_eq_true rfl, Nat.le_of_ble_eq_true rfl⟩) hR hA (fun r4 h5 H locs hw hR => ?_)
      try dsimp only at hw
      obtain ⟨a6, ea6, t7, t7i, hw⟩ := hw
      refine mx_iast hx hb hK.1 hR (a := a6) ea6 t7 t7i d_Joins_scatterRow_22 (fun H locs hR => ?_)
      obtain ⟨h8, eh8⟩ : ∃ z, z = sA h5 a6 x3.toNatClampNeg r4 := ⟨_, rfl⟩
      rw [← eh8] at hR
      have hw := hw h8 eh8
      obtain ⟨y9, ey9⟩ : ∃ y : Int32, y = x3 + (1 : Int32) := ⟨_, rfl⟩
      have hw := hw y9 ey9
      refine lv_iinc (v := y9) (lv' := [(3, .int y9), (1, .int x1), (2, va_rf x2)]) hx hb d_Joins_scatterRow_23 hl (k := 2) rfl (by rw [ey9]; rfl) (by decide) (by simp [mx_rf_cat]) (fun ls hl => ?_)
      refine lv_goto (tgt := 9) hx hb d_Joins_scatterRow_26 (by decide) ?_
      exact ih x1 x2 y9 _ _ _ _ hw (lv_sub hl [1, 2, 0] rfl) hR
set_option maxHeartbeats 4000000 in
set_option maxRecDepth 100000 in
theorem mt_Joins_scatterRow (l : Launch) (D : va_G) (cs : CS) (Z : Nat → Nat) (sz : Nat) {post : HS → Prop} {h : HS} {v0 : Nat} {x1 : Int32} (hw : wp_Joins_scatterRow Z post h v0 x1) : Met l y_Joins_scatterRow (Cond.code y_Joins_scatterRow c_Joins_scatterRow 4 none :: WA) ({ frames := 3, cells := 0, slots := 0, locals := 121 } : Room) (mPc D cs Z h sz [va_rf (some v0), .int x1]) (va_Qv post (mB D cs h sz) (fA h sz)) 0 0 (fA h sz) := by
  refine mx_met (fun sz => va_Qv post (mB D cs h sz) (fA h sz)) (by decide) (by simp [lg_sl, mx_rf_cat, cat_i, cat_l]) ?_
  intro p e s m args below meth c C hR ls hl
  have hl : lv_has ls 4 [(0, va_rf (some v0)), (1, .int x1)] := hl
  obtain ⟨hx, hb, hr, hml, hown, hW, hlocks, hnm, hK, hZ⟩ := id C
  have hown : s.vm.findClass "NetJoins$Joins" = some m.cls := hown
  have hA : ∀ q, s.heap.size ≤ q → fA h s.heap.size q := fun _ h => Or.inr h
  unfold wp_Joins_scatterRow at hw
  refine mx_aload_n (r := some v0) hx hb d_Joins_scatterRow_0 rfl (lv_at hl 0 rfl) ?_
  obtain ⟨t1, hw⟩ := hw
  refine mx_get (ci := 2) (C := "NetJoins$Joins") (T := F_Joins) (N := 1) hx hb hW hown hK.1 hR (a := v0) rfl t1 rfl i_Joins 0 2 (by decide) rfl kw_80 (fun _ h9 => h9) d_Joins_scatterRow_1 ?_
  refine lv_iload_n hx hb d_Joins_scatterRow_4 rfl (lv_at hl 1 rfl) ?_
  obtain ⟨a2, ea2, t3, t3i, hw⟩ := hw
  refine mx_rald hx hb hK.1 hR (a := a2) ea2 t3 t3i d_Joins_scatterRow_5 ?_
  refine mx_topr (fun y4 ey4 => ?_)
  have hw := hw y4 ey4
  refine mx_astore_n (i := 2) (r := y4) (lv' := [(2, va_rf y4), (0, va_rf (some v0)), (1, .int x1)]) hx hb d_Joins_scatterRow_6 rfl hl (by decide) rfl (fun ls hl => ?_)
  refine lv_iconst (v := 0) hx hb d_Joins_scatterRow_7 (by decide) ?_
  refine lv_istore_n (i := 3) (lv' := [(3, .int (0 : Int32)), (2, va_rf y4), (0, va_rf (some v0)), (1, .int x1)]) hx hb d_Joins_scatterRow_8 rfl hl (by decide) (by simp [mx_rf_cat]) (fun ls hl => ?_)
  obtain ⟨n9, hw⟩ := hw
  exact mn_Joins_scatterRow_9 C post n9 x1 y4 (0 : Int32) _ _ _ _ hw (lv_sub hl [3, 1, 0] rfl) hR
set_option maxHeartbeats 4000000 in
set_option maxRecDepth 100000 in
theorem mt_Joins_has (l : Launch) (D : va_G) (cs : CS) (Z : Nat → Nat) (sz : Nat) {post : Int32 → HS → Prop} {h : HS} {v0 : Nat} {x1 : Int32} (hw : wp_Joins_has Z post h v0 x1) : Met l y_Joins_has (Cond.code y_Joins_has c_Joins_has 3 (some .boolean) :: WA) ({ frames := 2, cells := 0, slots := 0, locals := 100 } : Room) (mPc D cs Z h sz [va_rf (some v0), .int x1]) (va_Qi post (mB D cs h sz) (fA h sz)) 0 0 (fA h sz) := by
  refine mx_met (fun sz => va_Qi post (mB D cs h sz) (fA h sz)) (by decide) (by simp [lg_sl, mx_rf_cat, cat_i, cat_l]) ?_
  intro p e s m args below meth c C hR ls hl
  have hl : lv_has ls 3 [(0, va_rf (some v0)), (1, .int x1)] := hl
  obtain ⟨hx, hb, hr, hml, hown, hW, hlocks, hnm, hK, hZ⟩ := id C
  have hown : s.vm.findClass "NetJoins$Joins" = some m.cls := hown
  have hA : ∀ q, s.heap.size ≤ q → fA h s.heap.size q := fun _ h => Or.inr h
  unfold wp_Joins_has at hw
  refine lv_iload_n hx hb d_Joins_has_0 rfl (lv_at hl 1 rfl) ?_
  refine lv_bipush (v := 11) hx hb d_Joins_has_1 (by decide) ?_
  refine lv_ishr hx hb d_Joins_has_3 ?_
  refine lv_topi (fun y1 ey1 => ?_)
  have hw := hw y1 ey1
  refine lv_istore_n (i := 2) (lv' := [(2, .int y1), (0, va_rf (some v0)), (1, .int x1)]) hx hb d_Joins_has_4 rfl hl (by decide) rfl (fun ls hl => ?_)
  refine lv_iload_n hx hb d_Joins_has_5 rfl (lv_at hl 0 rfl) ?_
  refine lv_if_lt (tgt := 37) hx hb d_Joins_has_6 (by decide) (fun c2 => ?_) (fun c2 => ?_)
  · have hw := hw.1 c2
    refine lv_iconst (v := 0) hx hb d_Joins_has_37 (by decide) ?_
    exact mx_zret hx hb hr hlocks hR (Or.inl rfl) hw d_Joins_has_38
  · have hw := hw.2 c2
    refine lv_iload_n hx hb d_Joins_has_9 rfl (lv_at hl 0 rfl) ?_
    refine mx_aload_n (r := some v0) hx hb d_Joins_has_10 rfl (lv_at hl 1 rfl) ?_
    obtain ⟨t3, hw⟩ := hw
    refine mx_get (ci := 2) (C := "NetJoins$Joins") (T := F_Joins) (N := 1) hx hb hW hown hK.1 hR (a := v0) rfl t3 rfl i_Joins 0 2 (by decide) rfl kw_80 (fun _ h9 => h9) d_Joins_has_11 ?_
    obtain ⟨a4, ea4, t5, t5i, hw⟩ := hw
    refine mx_alen hx hb hK.1 hR (a := a4) ea4 t5 t5i d_Joins_has_14 ?_
    refine lv_icmp_ge (tgt := 37) hx hb d_Joins_has_15 (by decide) (fun c6 => ?_) (fun c6 => ?_)
    · have hw := hw.1 c6
      refine lv_iconst (v := 0) hx hb d_Joins_has_37 (by decide) ?_
      exact mx_zret hx hb hr hlocks hR (Or.inl rfl) hw d_Joins_has_38
    · have hw := hw.2 c6
      refine lv_iload_n hx hb d_Joins_has_18 rfl (lv_at hl 2 rfl) ?_
      refine lv_sipush (v := 2047) hx hb d_Joins_has_19 (by decide) ?_
      refine lv_iand hx hb d_Joins_has_22 ?_
      refine mx_aload_n (r := some v0) hx hb d_Joins_has_23 rfl (lv_at hl 1 rfl) ?_
      obtain ⟨t7, hw⟩ := hw
      refine mx_get (ci := 2) (C := "NetJoins$Joins") (T := F_Joins) (N := 1) hx hb hW hown hK.1 hR (a := v0) rfl t7 rfl i_Joins 0 2 (by decide) rfl kw_80 (fun _ h9 => h9) d_Joins_has_24 ?_
      refine lv_iload_n hx hb d_Joins_has_27 rfl (lv_at hl 0 rfl) ?_
      obtain ⟨a8, ea8, t9, t9i, hw⟩ := hw
      refine mx_rald hx hb hK.1 hR (a := a8) ea8 t9 t9i d_Joins_has_28 ?_
      obtain ⟨a10, ea10, t11, t11i, hw⟩ := hw
      refine mx_alen hx hb hK.1 hR (a := a10) ea10 t11 t11i d_Joins_has_29 ?_
      refine lv_icmp_ge (tgt := 37) hx hb d_Joins_has_30 (by decide) (fun c12 => ?_) (fun c12 => ?_)
      · have hw := hw.1 c12
        refine lv_iconst (v := 0) hx hb d_Joins_has_37 (by decide) ?_
        exact mx_zret hx hb hr hlocks hR (Or.inl rfl) hw d_Joins_has_38
      · have hw := hw.2 c12
        refine lv_iconst (v := 1) hx hb d_Joins_has_33 (by decide) ?_
        refine lv_goto (tgt := 38) hx hb d_Joins_has_34 (by decide) ?_
        exact mx_zret hx hb hr hlocks hR (Or.inr rfl) hw d_Joins_has_38
set_option maxHeartbeats 4000000 in
set_option maxRecDepth 100000 in
theorem mn_Joins_climb_4 {D : va_G} {cs : CS} {Z : Nat → Nat} {h0 : HS} {p : Program} {l : Launch} {e : Env} {s : State} {m : MethodId} {args : Array Value} {below : List Frame} {meth : Method} {c : Code} {v0 : Nat} (C : mC D cs Z h0 y_Joins_climb c_Joins_climb 6 (some .int) p s m args meth c) (post : Int32 → HS → Prop) : ∀ (n : Nat) (x2 : Int32) (x3 : Int32) (h : HS) (H : Heap) (locs : List Loc) (ls : Array Slot), lpF (wb_Joins_climb_4 Z post v0) n (x2, x3, h) → lv_has ls 6 [(0, va_rf (some v0)), (2, .int x2), (3, .int x3)] → mR D cs (fA h0 s.heap.size) h s.heap H locs → W p l e ({ frames := 2, cells := 0, slots := 0, locals := 100 } : Room) s m args below meth c H locs 0 0 (MQ below (va_Qi post (mB D cs h0 s.heap.size) (fA h0 s.heap.size)) args s 0 0 (fA h0 s.heap.size)) (F0 m 4 ls []) := by
  obtain ⟨hx, hb, hr, hml, hown, hW, hlocks, hnm, hK, hZ⟩ := id C
  have hown : s.vm.findClass "NetJoins$Joins" = some m.cls := hown
  have hA : ∀ q, s.heap.size ≤ q → fA h0 s.heap.size q := fun _ h => Or.inr h
  intro n
  induction n with
  | zero => intro x2 x3 h H locs ls hw; exact hw.elim
  | succ n ih =>
    intro x2 x3 h H locs ls hw hl hR
    have hw : wb_Joins_climb_4 Z post v0 (lpF (wb_Joins_climb_4 Z post v0) n) (x2, x3, h) := hw
    unfold wb_Joins_climb_4 at hw
    dsimp only at hw
    refine lv_iload_n hx hb d_Joins_climb_4 rfl (lv_at hl 2 rfl) ?_
    refine lv_ldc hx hb hown (hW _ kw_235) d_Joins_climb_5 ?_
    refine lv_icmp_ge (tgt := 81) hx hb d_Joins_climb_7 (by decide) (fun c1 => ?_) (fun c1 => ?_)
    · have hw := hw.1 c1
      refine lv_iload_n hx hb d_Joins_climb_81 rfl (lv_at hl 1 rfl) ?_
      exact mx_iret hx hb hr hlocks hR hw d_Joins_climb_82
    · have hw := hw.2 c1
      refine mx_aload_n (r := some v0) hx hb d_Joins_climb_10 rfl (lv_at hl 0 rfl) ?_
      obtain ⟨t2, hw⟩ := hw
      refine mx_get (ci := 2) (C := "NetJoins$Joins") (T := F_Joins) (N := 1) hx hb hW hown hK.1 hR (a := v0) rfl t2 rfl i_Joins 0 2 (by decide) rfl kw_80 (fun _ h9 => h9) d_Joins_climb_11 ?_
      refine lv_iload_n hx hb d_Joins_climb_14 rfl (lv_at hl 1 rfl) ?_
      refine lv_bipush (v := 11) hx hb d_Joins_climb_15 (by decide) ?_
      refine lv_ishr hx hb d_Joins_climb_17 ?_
      obtain ⟨a3, ea3, t4, t4i, hw⟩ := hw
      refine mx_rald hx hb hK.1 hR (a := a3) ea3 t4 t4i d_Joins_climb_18 ?_
      refine lv_iload_n hx hb d_Joins_climb_19 rfl (lv_at hl 1 rfl) ?_
      refine lv_sipush (v := 2047) hx hb d_Joins_climb_20 (by decide) ?_
      refine lv_iand hx hb d_Joins_climb_23 ?_
      obtain ⟨a5, ea5, t6, t6i, hw⟩ := hw
      refine mx_iald hx hb hK.1 hR (a := a5) ea5 t6 t6i d_Joins_climb_24 ?_
      refine lv_topi (fun y7 ey7 => ?_)
      have hw := hw y7 ey7
      refine lv_istore (i := 4) (lv' := [(4, .int y7), (0, va_rf (some v0)), (2, .int x2), (3, .int x3)]) hx hb d_Joins_climb_25 hl (by decide) rfl (fun ls hl => ?_)
      refine lv_iload hx hb d_Joins_climb_27 (lv_at hl 0 rfl) ?_
      refine lv_iload_n hx hb d_Joins_climb_29 rfl (lv_at hl 2 rfl) ?_
      refine lv_icmp_ne (tgt := 36) hx hb d_Joins_climb_30 (by decide) (fun c8 => ?_) (fun c8 => ?_)
      · have hw := hw.1 c8
        refine mx_aload_n (r := some v0) hx hb d_Joins_climb_36 rfl (lv_at hl 1 rfl) ?_
        obtain ⟨t9, hw⟩ := hw
        refine mx_get (ci := 2) (C := "NetJoins$Joins") (T := F_Joins) (N := 1) hx hb hW hown hK.1 hR (a := v0) rfl t9 rfl i_Joins 0 2 (by decide) rfl kw_80 (fun _ h9 => h9) d_Joins_climb_37 ?_
        refine lv_iload hx hb d_Joins_climb_40 (lv_at hl 0 rfl) ?_
        refine lv_bipush (v := 11) hx hb d_Joins_climb_42 (by decide) ?_
        refine lv_ishr hx hb d_Joins_climb_44 ?_
        obtain ⟨a10, ea10, t11, t11i, hw⟩ := hw
        refine mx_rald hx hb hK.1 hR (a := a10) ea10 t11 t11i d_Joins_climb_45 ?_
        refine lv_iload hx hb d_Joins_climb_46 (lv_at hl 0 rfl) ?_
        refine lv_sipush (v := 2047) hx hb d_Joins_climb_48 (by decide) ?_
        refine lv_iand hx hb d_Joins_climb_51 ?_
        obtain ⟨a12, ea12, t13, t13i, hw⟩ := hw
        refine mx_iald hx hb hK.1 hR (a := a12) ea12 t13 t13i d_Joins_climb_52 ?_
        refine lv_topi (fun y14 ey14 => ?_)
        have hw := hw y14 ey14
        refine lv_istore (i := 5) (lv' := [(5, .int y14), (4, .int y7), (0, va_rf (some v0)), (2, .int x2), (3, .int x3)]) hx hb d_Joins_climb_53 hl (by decide) rfl (fun ls hl => ?_)
        refine mx_aload_n (r := some v0) hx hb d_Joins_climb_55 rfl (lv_at hl 2 rfl) ?_
        obtain ⟨t15, hw⟩ := hw
        refine mx_get (ci := 2) (C := "NetJoins$Joins") (T := F_Joins) (N := 1) hx hb hW hown hK.1 hR (a := v0) rfl t15 rfl i_Joins 0 2 (by decide) rfl kw_80 (fun _ h9 => h9) d_Joins_climb_56 ?_
        refine lv_iload_n hx hb d_Joins_climb_59 rfl (lv_at hl 3 rfl) ?_
        refine lv_bipush (v := 11) hx hb d_Joins_climb_60 (by decide) ?_
        refine lv_ishr hx hb d_Joins_climb_62 ?_
        obtain ⟨a16, ea16, t17, t17i, hw⟩ := hw
        refine mx_rald hx hb hK.1 hR (a := a16) ea16 t17 t17i d_Joins_climb_63 ?_
        refine lv_iload_n hx hb d_Joins_climb_64 rfl (lv_at hl 3 rfl) ?_
        refine lv_sipush (v := 2047) hx hb d_Joins_climb_65 (by decide) ?_
        refine lv_iand hx hb d_Joins_climb_68 ?_
        refine lv_iload hx hb d_Joins_climb_69 (lv_at hl 0 rfl) ?_
        obtain ⟨a18, ea18, t19, t19i, hw⟩ := hw
        refine mx_iast hx hb hK.1 hR (a := a18) ea18 t19 t19i d_Joins_climb_71 (fun H locs hR => ?_)
        obtain ⟨h20, eh20⟩ : ∃ z, z = sA h a18 (x2 &&& (2047 : Int32)).toNatClampNeg y14 := ⟨_, rfl⟩
        rw [← eh20] at hR
        have hw := hw h20 eh20
        refine lv_iload hx hb d_Joins_climb_72 (lv_at hl 0 rfl) ?_
        refine lv_istore_n (i := 2) (lv' := [(2, .int y14), (5, .int y14), (4, .int y7), (0, va_rf (some v0)), (3, .int x3)]) hx hb d_Joins_climb_74 rfl hl (by decide) rfl (fun ls hl => ?_)
        obtain ⟨y21, ey21⟩ : ∃ y : Int32, y = x3 + (1 : Int32) := ⟨_, rfl⟩
        have hw := hw y21 ey21
        refine lv_iinc (v := y21) (lv' := [(3, .int y21), (2, .int y14), (5, .int y14), (4, .int y7), (0, va_rf (some v0))]) hx hb d_Joins_climb_75 hl (k := 4) rfl (by rw [ey21]; rfl) (by decide) rfl (fun ls hl => ?_)
        refine lv_goto (tgt := 4) hx hb d_Joins_climb_78 (by decide) ?_
        exact ih y14 y21 _ _ _ _ hw (lv_sub hl [4, 1, 0] rfl) hR
      · have hw := hw.2 c8
        refine lv_goto (tgt := 81) hx hb d_Joins_climb_33 (by decide) ?_
        refine lv_iload_n hx hb d_Joins_climb_81 rfl (lv_at hl 2 rfl) ?_
        exact mx_iret hx hb hr hlocks hR hw d_Joins_climb_82
set_option maxHeartbeats 4000000 in
set_option maxRecDepth 100000 in
theorem mt_Joins_climb (l : Launch) (D : va_G) (cs : CS) (Z : Nat → Nat) (sz : Nat) {post : Int32 → HS → Prop} {h : HS} {v0 : Nat} {x1 : Int32} (hw : wp_Joins_climb Z post h v0 x1) : Met l y_Joins_climb (Cond.code y_Joins_climb c_Joins_climb 6 (some .int) :: WA) ({ frames := 2, cells := 0, slots := 0, locals := 100 } : Room) (mPc D cs Z h sz [va_rf (some v0), .int x1]) (va_Qi post (mB D cs h sz) (fA h sz)) 0 0 (fA h sz) := by
  refine mx_met (fun sz => va_Qi post (mB D cs h sz) (fA h sz)) (by decide) (by simp [lg_sl, mx_rf_cat, cat_i, cat_l]) ?_
  intro p e s m args below meth c C hR ls hl
  have hl : lv_has ls 6 [(0, va_rf (some v0)), (1, .int x1)] := hl
  obtain ⟨hx, hb, hr, hml, hown, hW, hlocks, hnm, hK, hZ⟩ := id C
  have hown : s.vm.findClass "NetJoins$Joins" = some m.cls := hown
  have hA : ∀ q, s.heap.size ≤ q → fA h s.heap.size q := fun _ h => Or.inr h
  unfold wp_Joins_climb at hw
  refine lv_iload_n hx hb d_Joins_climb_0 rfl (lv_at hl 1 rfl) ?_
  refine lv_istore_n (i := 2) (lv' := [(2, .int x1), (0, va_rf (some v0)), (1, .int x1)]) hx hb d_Joins_climb_1 rfl hl (by decide) rfl (fun ls hl => ?_)
  refine lv_iconst (v := 0) hx hb d_Joins_climb_2 (by decide) ?_
  refine lv_istore_n (i := 3) (lv' := [(3, .int (0 : Int32)), (2, .int x1), (0, va_rf (some v0)), (1, .int x1)]) hx hb d_Joins_climb_3 rfl hl (by decide) rfl (fun ls hl => ?_)
  obtain ⟨n9, hw⟩ := hw
  exact mn_Joins_climb_4 C post n9 x1 (0 : Int32) _ _ _ _ hw (lv_sub hl [2, 1, 0] rfl) hR
set_option maxHeartbeats 4000000 in
set_option maxRecDepth 100000 in
theorem mt_Joins_root (l : Launch) (D : va_G) (cs : CS) (Z : Nat → Nat) (sz : Nat) {post : Int32 → HS → Prop} {h : HS} {v0 : Nat} {x1 : Int32} (hw : wp_Joins_root Z post h v0 x1) : Met l y_Joins_root (Cond.code y_Joins_root c_Joins_root 2 (some .int) :: WA) ({ frames := 3, cells := 0, slots := 0, locals := 125 } : Room) (mPc D cs Z h sz [va_rf (some v0), .int x1]) (va_Qi post (mB D cs h sz) (fA h sz)) 0 0 (fA h sz) := by
  refine mx_met (fun sz => va_Qi post (mB D cs h sz) (fA h sz)) (by decide) (by simp [lg_sl, mx_rf_cat, cat_i, cat_l]) ?_
  intro p e s m args below meth c C hR ls hl
  have hl : lv_has ls 2 [(0, va_rf (some v0)), (1, .int x1)] := hl
  obtain ⟨hx, hb, hr, hml, hown, hW, hlocks, hnm, hK, hZ⟩ := id C
  have hown : s.vm.findClass "NetJoins$Joins" = some m.cls := hown
  have hA : ∀ q, s.heap.size ≤ q → fA h s.heap.size q := fun _ h => Or.inr h
  unfold wp_Joins_root at hw
  refine mx_aload_n (r := some v0) hx hb d_Joins_root_0 rfl (lv_at hl 0 rfl) ?_
  refine lv_iload_n hx hb d_Joins_root_1 rfl (lv_at hl 1 rfl) ?_
  obtain ⟨t3, hw⟩ := hw
  refine mx_calli (va_runV (b := v0) (As := [.int x1]) (rest := []) ⟨hx, hb, hml, hown, hW⟩ (mt_Joins_has l D cs Z _ hw) (mx_cwV hW ok_Joins_has kw_227 rfl rfl ⟨Nat.le_of_ble_eq_true rfl, Nat.le_of_ble_eq_true rfl⟩) (mx_preV hK hZ hA hR (ci := 2) rfl t3) rfl rfl hl.1 rfl (lv_room (Nat.le_of_ble_eq_true rfl)) d_Joins_root_2 ⟨Nat.le_of_ble_eq_true rfl, Nat.le_of_ble_eq_true rfl⟩) hR hA (fun r1 h2 H locs hw hR => ?_)
  try dsimp only at hw
  refine lv_if_eq (tgt := 16) hx hb d_Joins_root_5 (by decide) (fun c4 => ?_) (fun c4 => ?_)
  · have hw := hw.1 c4
    refine lv_iload_n hx hb d_Joins_root_16 rfl (lv_at hl 1 rfl) ?_
    exact mx_iret hx hb hr hlocks hR hw d_Joins_root_17
  · have hw := hw.2 c4
    refine mx_aload_n (r := some v0) hx hb d_Joins_root_8 rfl (lv_at hl 0 rfl) ?_
    refine lv_iload_n hx hb d_Joins_root_9 rfl (lv_at hl 1 rfl) ?_
    obtain ⟨t7, hw⟩ := hw
    refine mx_calli (va_runV (b := v0) (As := [.int x1]) (rest := []) ⟨hx, hb, hml, hown, hW⟩ (mt_Joins_climb l D cs Z _ hw) (mx_cwV hW ok_Joins_climb kw_231 rfl rfl ⟨Nat.le_of_ble_eq_true rfl, Nat.le_of_ble_eq_true rfl⟩) (mx_preV hK hZ hA hR (ci := 2) rfl t7) rfl rfl hl.1 rfl (lv_room (Nat.le_of_ble_eq_true rfl)) d_Joins_root_10 ⟨Nat.le_of_ble_eq_true rfl, Nat.le_of_ble_eq_true rfl⟩) hR hA (fun r5 h6 H locs hw hR => ?_)
    try dsimp only at hw
    refine lv_goto (tgt := 17) hx hb d_Joins_root_13 (by decide) ?_
    exact mx_iret hx hb hr hlocks hR hw d_Joins_root_17
set_option maxHeartbeats 4000000 in
set_option maxRecDepth 100000 in
theorem mt_Joins_join (l : Launch) (D : va_G) (cs : CS) (Z : Nat → Nat) (sz : Nat) {post : HS → Prop} {h : HS} {v0 : Nat} {x1 : Int32} {x2 : Int32} (hw : wp_Joins_join Z post h v0 x1 x2) : Met l y_Joins_join (Cond.code y_Joins_join c_Joins_join 7 none :: WA) ({ frames := 3, cells := 0, slots := 0, locals := 125 } : Room) (mPc D cs Z h sz [va_rf (some v0), .int x1, .int x2]) (va_Qv post (mB D cs h sz) (fA h sz)) 0 0 (fA h sz) := by
  refine mx_met (fun sz => va_Qv post (mB D cs h sz) (fA h sz)) (by decide) (by simp [lg_sl, mx_rf_cat, cat_i, cat_l]) ?_
  intro p e s m args below meth c C hR ls hl
  have hl : lv_has ls 7 [(0, va_rf (some v0)), (1, .int x1), (2, .int x2)] := hl
  obtain ⟨hx, hb, hr, hml, hown, hW, hlocks, hnm, hK, hZ⟩ := id C
  have hown : s.vm.findClass "NetJoins$Joins" = some m.cls := hown
  have hA : ∀ q, s.heap.size ≤ q → fA h s.heap.size q := fun _ h => Or.inr h
  unfold wp_Joins_join at hw
  refine mx_aload_n (r := some v0) hx hb d_Joins_join_0 rfl (lv_at hl 0 rfl) ?_
  refine lv_iload_n hx hb d_Joins_join_1 rfl (lv_at hl 1 rfl) ?_
  obtain ⟨t3, hw⟩ := hw
  refine mx_calli (va_runV (b := v0) (As := [.int x1]) (rest := []) ⟨hx, hb, hml, hown, hW⟩ (mt_Joins_has l D cs Z _ hw) (mx_cwV hW ok_Joins_has kw_227 rfl rfl ⟨Nat.le_of_ble_eq_true rfl, Nat.le_of_ble_eq_true rfl⟩) (mx_preV hK hZ hA hR (ci := 2) rfl t3) rfl rfl hl.1 rfl (lv_room (Nat.le_of_ble_eq_true rfl)) d_Joins_join_2 ⟨Nat.le_of_ble_eq_true rfl, Nat.le_of_ble_eq_true rfl⟩) hR hA (fun r1 h2 H locs hw hR => ?_)
  try dsimp only at hw
  refine lv_if_eq (tgt := 16) hx hb d_Joins_join_5 (by decide) (fun c4 => ?_) (fun c4 => ?_)
  · have hw := hw.1 c4
    exact mx_vret hx hb hr hlocks hR hw d_Joins_join_16
  · have hw := hw.2 c4
    refine mx_aload_n (r := some v0) hx hb d_Joins_join_8 rfl (lv_at hl 0 rfl) ?_
    refine lv_iload_n hx hb d_Joins_join_9 rfl (lv_at hl 2 rfl) ?_
    obtain ⟨t7, hw⟩ := hw
    refine mx_calli (va_runV (b := v0) (As := [.int x2]) (rest := []) ⟨hx, hb, hml, hown, hW⟩ (mt_Joins_has l D cs Z _ hw) (mx_cwV hW ok_Joins_has kw_227 rfl rfl ⟨Nat.le_of_ble_eq_true rfl, Nat.le_of_ble_eq_true rfl⟩) (mx_preV hK hZ hA hR (ci := 2) rfl t7) rfl rfl hl.1 rfl (lv_room (Nat.le_of_ble_eq_true rfl)) d_Joins_join_10 ⟨Nat.le_of_ble_eq_true rfl, Nat.le_of_ble_eq_true rfl⟩) hR hA (fun r5 h6 H locs hw hR => ?_)
    try dsimp only at hw
    refine lv_if_ne (tgt := 17) hx hb d_Joins_join_13 (by decide) (fun c8 => ?_) (fun c8 => ?_)
    · have hw := hw.1 c8
      refine mx_aload_n (r := some v0) hx hb d_Joins_join_17 rfl (lv_at hl 0 rfl) ?_
      refine lv_iload_n hx hb d_Joins_join_18 rfl (lv_at hl 1 rfl) ?_
      obtain ⟨t11, hw⟩ := hw
      refine mx_calli (va_runV (b := v0) (As := [.int x1]) (rest := []) ⟨hx, hb, hml, hown, hW⟩ (mt_Joins_climb l D cs Z _ hw) (mx_cwV hW ok_Joins_climb kw_231 rfl rfl ⟨Nat.le_of_ble_eq_true rfl, Nat.le_of_ble_eq_true rfl⟩) (mx_preV hK hZ hA hR (ci := 2) rfl t11) rfl rfl hl.1 rfl (lv_room (Nat.le_of_ble_eq_true rfl)) d_Joins_join_19 ⟨Nat.le_of_ble_eq_true rfl, Nat.le_of_ble_eq_true rfl⟩) hR hA (fun r9 h10 H locs hw hR => ?_)
      try dsimp only at hw
      refine lv_istore_n (i := 3) (lv' := [(3, .int r9), (0, va_rf (some v0)), (1, .int x1), (2, .int x2)]) hx hb d_Joins_join_22 rfl hl (by decide) rfl (fun ls hl => ?_)
      refine mx_aload_n (r := some v0) hx hb d_Joins_join_23 rfl (lv_at hl 1 rfl) ?_
      refine lv_iload_n hx hb d_Joins_join_24 rfl (lv_at hl 3 rfl) ?_
      obtain ⟨t14, hw⟩ := hw
      refine mx_calli (va_runV (b := v0) (As := [.int x2]) (rest := []) ⟨hx, hb, hml, hown, hW⟩ (mt_Joins_climb l D cs Z _ hw) (mx_cwV hW ok_Joins_climb kw_231 rfl rfl ⟨Nat.le_of_ble_eq_true rfl, Nat.le_of_ble_eq_true rfl⟩) (mx_preV hK hZ hA hR (ci := 2) rfl t14) rfl rfl hl.1 rfl (lv_room (Nat.le_of_ble_eq_true rfl)) d_Joins_join_25 ⟨Nat.le_of_ble_eq_true rfl, Nat.le_of_ble_eq_true rfl⟩) hR hA (fun r12 h13 H locs hw hR => ?_)
      try dsimp only at hw
      refine lv_istore (i := 4) (lv' := [(4, .int r12), (3, .int r9), (0, va_rf (some v0)), (1, .int x1), (2, .int x2)]) hx hb d_Joins_join_28 hl (by decide) rfl (fun ls hl => ?_)
      refine lv_iload_n hx hb d_Joins_join_30 rfl (lv_at hl 1 rfl) ?_
      refine lv_iload hx hb d_Joins_join_31 (lv_at hl 0 rfl) ?_
      refine va_mmin hx hb (by rw [hml]; exact hl.1.symm) hown (hW _ kw_330) (hW _ kw_331) (hW _ kw_18) (hW _ kw_332) (Nat.le_of_ble_eq_true rfl) (Nat.le_of_ble_eq_true rfl) (Nat.le_of_ble_eq_true rfl) (Nat.le_of_ble_eq_true rfl) d_Joins_join_33 ?_
      refine lv_topi (fun y15 ey15 => ?_)
      have hw := hw y15 ey15
      refine lv_istore (i := 5) (lv' := [(5, .int y15), (4, .int r12), (3, .int r9), (0, va_rf (some v0)), (1, .int x1), (2, .int x2)]) hx hb d_Joins_join_36 hl (by decide) rfl (fun ls hl => ?_)
      refine lv_iload_n hx hb d_Joins_join_38 rfl (lv_at hl 2 rfl) ?_
      refine lv_iload hx hb d_Joins_join_39 (lv_at hl 1 rfl) ?_
      refine va_mmax hx hb (by rw [hml]; exact hl.1.symm) hown (hW _ kw_333) (hW _ kw_334) (hW _ kw_18) (hW _ kw_335) (Nat.le_of_ble_eq_true rfl) (Nat.le_of_ble_eq_true rfl) (Nat.le_of_ble_eq_true rfl) (Nat.le_of_ble_eq_true rfl) d_Joins_join_41 ?_
      refine lv_topi (fun y16 ey16 => ?_)
      have hw := hw y16 ey16
      refine lv_istore (i := 6) (lv' := [(6, .int y16), (5, .int y15), (4, .int r12), (3, .int r9), (0, va_rf (some v0)), (1, .int x1), (2, .int x2)]) hx hb d_Joins_join_44 hl (by decide) rfl (fun ls hl => ?_)
      refine mx_aload_n (r := some v0) hx hb d_Joins_join_46 rfl (lv_at hl 4 rfl) ?_
      obtain ⟨t17, hw⟩ := hw
      refine mx_get (ci := 2) (C := "NetJoins$Joins") (T := F_Joins) (N := 1) hx hb hW hown hK.1 hR (a := v0) rfl t17 rfl i_Joins 0 2 (by decide) rfl kw_80 (fun _ h9 => h9) d_Joins_join_47 ?_
      refine lv_iload hx hb d_Joins_join_50 (lv_at hl 0 rfl) ?_
      refine lv_bipush (v := 11) hx hb d_Joins_join_52 (by decide) ?_
      refine lv_ishr hx hb d_Joins_join_54 ?_
      obtain ⟨a18, ea18, t19, t19i, hw⟩ := hw
      refine mx_rald hx hb hK.1 hR (a := a18) ea18 t19 t19i d_Joins_join_55 ?_
      refine lv_iload hx hb d_Joins_join_56 (lv_at hl 0 rfl) ?_
      refine lv_sipush (v := 2047) hx hb d_Joins_join_58 (by decide) ?_
      refine lv_iand hx hb d_Joins_join_61 ?_
      refine lv_iload hx hb d_Joins_join_62 (lv_at hl 1 rfl) ?_
      obtain ⟨a20, ea20, t21, t21i, hw⟩ := hw
      refine mx_iast hx hb hK.1 hR (a := a20) ea20 t21 t21i d_Joins_join_64 (fun H locs hR => ?_)
      obtain ⟨h22, eh22⟩ : ∃ z, z = sA h13 a20 (y16 &&& (2047 : Int32)).toNatClampNeg y15 := ⟨_, rfl⟩
      rw [← eh22] at hR
      have hw := hw h22 eh22
      exact mx_vret hx hb hr hlocks hR hw d_Joins_join_65
    · have hw := hw.2 c8
      exact mx_vret hx hb hr hlocks hR hw d_Joins_join_16
set_option maxHeartbeats 4000000 in
set_option maxRecDepth 100000 in
theorem mt_Bus_length (l : Launch) (D : va_G) (cs : CS) (Z : Nat → Nat) (sz : Nat) {post : Int32 → HS → Prop} {h : HS} {v0 : Nat}  (hw : wp_Bus_length Z post h v0 ) : Met l y_Bus_length (Cond.code y_Bus_length c_Bus_length 1 (some .int) :: WA) ({ frames := 2, cells := 0, slots := 0, locals := 100 } : Room) (mPc D cs Z h sz [va_rf (some v0)]) (va_Qi post (mB D cs h sz) (fA h sz)) 0 0 (fA h sz) := by
  refine mx_met (fun sz => va_Qi post (mB D cs h sz) (fA h sz)) (by decide) (by simp [lg_sl, mx_rf_cat, cat_i, cat_l]) ?_
  intro p e s m args below meth c C hR ls hl
  have hl : lv_has ls 1 [(0, va_rf (some v0))] := hl
  obtain ⟨hx, hb, hr, hml, hown, hW, hlocks, hnm, hK, hZ⟩ := id C
  have hown : s.vm.findClass "NetJoins$Bus" = some m.cls := hown
  have hA : ∀ q, s.heap.size ≤ q → fA h s.heap.size q := fun _ h => Or.inr h
  unfold wp_Bus_length at hw
  refine mx_aload_n (r := some v0) hx hb d_Bus_length_0 rfl (lv_at hl 0 rfl) ?_
  obtain ⟨t1, hw⟩ := hw
  refine mx_get (ci := 1) (C := "NetJoins$Bus") (T := F_Bus) (N := 4) hx hb hW hown hK.1 hR (a := v0) rfl t1 rfl i_Bus 3 0 (by decide) rfl kw_1066 (fun _ h9 => h9) d_Bus_length_1 ?_
  refine mx_aload_n (r := some v0) hx hb d_Bus_length_4 rfl (lv_at hl 0 rfl) ?_
  obtain ⟨t2, hw⟩ := hw
  refine mx_get (ci := 1) (C := "NetJoins$Bus") (T := F_Bus) (N := 4) hx hb hW hown hK.1 hR (a := v0) rfl t2 rfl i_Bus 2 0 (by decide) rfl kw_1064 (fun _ h9 => h9) d_Bus_length_5 ?_
  refine lv_isub hx hb d_Bus_length_8 ?_
  refine va_mabs hx hb (by rw [hml]; exact hl.1.symm) hown (hW _ kw_377) (hW _ kw_378) (hW _ kw_18) (hW _ kw_379) (Nat.le_of_ble_eq_true rfl) (Nat.le_of_ble_eq_true rfl) (Nat.le_of_ble_eq_true rfl) (Nat.le_of_ble_eq_true rfl) d_Bus_length_9 ?_
  refine lv_iconst (v := 1) hx hb d_Bus_length_12 (by decide) ?_
  refine lv_iadd hx hb d_Bus_length_13 ?_
  exact mx_iret hx hb hr hlocks hR hw d_Bus_length_14
set_option maxHeartbeats 4000000 in
set_option maxRecDepth 100000 in
theorem mt_Bus_member (l : Launch) (D : va_G) (cs : CS) (Z : Nat → Nat) (sz : Nat) {post : Int32 → HS → Prop} {h : HS} {v0 : Nat} {x1 : Int32} (hw : wp_Bus_member Z post h v0 x1) : Met l y_Bus_member (Cond.code y_Bus_member c_Bus_member 2 (some .int) :: WA) ({ frames := 2, cells := 0, slots := 0, locals := 100 } : Room) (mPc D cs Z h sz [va_rf (some v0), .int x1]) (va_Qi post (mB D cs h sz) (fA h sz)) 0 0 (fA h sz) := by
  refine mx_met (fun sz => va_Qi post (mB D cs h sz) (fA h sz)) (by decide) (by simp [lg_sl, mx_rf_cat, cat_i, cat_l]) ?_
  intro p e s m args below meth c C hR ls hl
  have hl : lv_has ls 2 [(0, va_rf (some v0)), (1, .int x1)] := hl
  obtain ⟨hx, hb, hr, hml, hown, hW, hlocks, hnm, hK, hZ⟩ := id C
  have hown : s.vm.findClass "NetJoins$Bus" = some m.cls := hown
  have hA : ∀ q, s.heap.size ≤ q → fA h s.heap.size q := fun _ h => Or.inr h
  unfold wp_Bus_member at hw
  refine mx_aload_n (r := some v0) hx hb d_Bus_member_0 rfl (lv_at hl 0 rfl) ?_
  obtain ⟨t1, hw⟩ := hw
  refine mx_get (ci := 1) (C := "NetJoins$Bus") (T := F_Bus) (N := 4) hx hb hW hown hK.1 hR (a := v0) rfl t1 rfl i_Bus 2 0 (by decide) rfl kw_1064 (fun _ h9 => h9) d_Bus_member_1 ?_
  refine mx_aload_n (r := some v0) hx hb d_Bus_member_4 rfl (lv_at hl 0 rfl) ?_
  obtain ⟨t2, hw⟩ := hw
  refine mx_get (ci := 1) (C := "NetJoins$Bus") (T := F_Bus) (N := 4) hx hb hW hown hK.1 hR (a := v0) rfl t2 rfl i_Bus 3 0 (by decide) rfl kw_1066 (fun _ h9 => h9) d_Bus_member_5 ?_
  refine lv_icmp_gt (tgt := 20) hx hb d_Bus_member_8 (by decide) (fun c3 => ?_) (fun c3 => ?_)
  · have hw := hw.1 c3
    refine mx_aload_n (r := some v0) hx hb d_Bus_member_20 rfl (lv_at hl 0 rfl) ?_
    obtain ⟨t4, hw⟩ := hw
    refine mx_get (ci := 1) (C := "NetJoins$Bus") (T := F_Bus) (N := 4) hx hb hW hown hK.1 hR (a := v0) rfl t4 rfl i_Bus 2 0 (by decide) rfl kw_1064 (fun _ h9 => h9) d_Bus_member_21 ?_
    refine lv_iload_n hx hb d_Bus_member_24 rfl (lv_at hl 1 rfl) ?_
    refine lv_isub hx hb d_Bus_member_25 ?_
    exact mx_iret hx hb hr hlocks hR hw d_Bus_member_26
  · have hw := hw.2 c3
    refine mx_aload_n (r := some v0) hx hb d_Bus_member_11 rfl (lv_at hl 0 rfl) ?_
    obtain ⟨t5, hw⟩ := hw
    refine mx_get (ci := 1) (C := "NetJoins$Bus") (T := F_Bus) (N := 4) hx hb hW hown hK.1 hR (a := v0) rfl t5 rfl i_Bus 2 0 (by decide) rfl kw_1064 (fun _ h9 => h9) d_Bus_member_12 ?_
    refine lv_iload_n hx hb d_Bus_member_15 rfl (lv_at hl 1 rfl) ?_
    refine lv_iadd hx hb d_Bus_member_16 ?_
    refine lv_goto (tgt := 26) hx hb d_Bus_member_17 (by decide) ?_
    exact mx_iret hx hb hr hlocks hR hw d_Bus_member_26
set_option maxHeartbeats 4000000 in
set_option maxRecDepth 100000 in
theorem mt_Bus_init (l : Launch) (D : va_G) (cs : CS) (Z : Nat → Nat) (sz : Nat) {post : HS → Prop} {h : HS} {v0 : Nat} {x1 : Int32} {x2 : Int32} {x3 : Int32} {x4 : Int32} (hw : wp_Bus_init Z post h v0 x1 x2 x3 x4) : Met l y_Bus_init (Cond.code y_Bus_init c_Bus_init 5 none :: WA) ({ frames := 2, cells := 0, slots := 0, locals := 100 } : Room) (mPc D cs Z h sz [va_rf (some v0), .int x1, .int x2, .int x3, .int x4]) (va_Qv post (mB D cs h sz) (fA h sz)) 0 0 (fA h sz) := by
  refine mx_met (fun sz => va_Qv post (mB D cs h sz) (fA h sz)) (by decide) (by simp [lg_sl, mx_rf_cat, cat_i, cat_l]) ?_
  intro p e s m args below meth c C hR ls hl
  have hl : lv_has ls 5 [(0, va_rf (some v0)), (1, .int x1), (2, .int x2), (3, .int x3), (4, .int x4)] := hl
  obtain ⟨hx, hb, hr, hml, hown, hW, hlocks, hnm, hK, hZ⟩ := id C
  have hown : s.vm.findClass "NetJoins$Bus" = some m.cls := hown
  have hA : ∀ q, s.heap.size ≤ q → fA h s.heap.size q := fun _ h => Or.inr h
  unfold wp_Bus_init at hw
  refine mx_aload_n (r := some v0) hx hb d_Bus_init_0 rfl (lv_at hl 0 rfl) ?_
  refine W.objInit hx hb hown (hW _ kw_1059) (hW _ kw_37) (hW _ kw_38) rfl (by rw [hml]; exact hl.1) rfl d_Bus_init_1 (Nat.le_of_ble_eq_true rfl) (Nat.le_of_ble_eq_true rfl) ?_
  refine W.eq (g2 := F0 m 4 ls []) rfl ?_
  refine mx_aload_n (r := some v0) hx hb d_Bus_init_4 rfl (lv_at hl 0 rfl) ?_
  refine lv_iload_n hx hb d_Bus_init_5 rfl (lv_at hl 1 rfl) ?_
  obtain ⟨t1, hw⟩ := hw
  refine mx_putF (ci := 1) (C := "NetJoins$Bus") (T := F_Bus) (N := 4) (v := .int x1) (h' := sI h 100 v0 x1) hx hb hW hown hK.1 hR (a := v0) rfl t1 rfl i_Bus t_Bus t_Bus_ok n_Bus 0 0 (by decide) rfl kw_1060 (fun _ h9 => h9) rfl hnm rfl rfl rfl d_Bus_init_6 rfl (toE_sI (ci := 1) (k := 0) t1 rfl) (fun H locs hR => ?_)
  obtain ⟨h2, eh2⟩ : ∃ z, z = sI h 100 v0 x1 := ⟨_, rfl⟩
  rw [← eh2] at hR
  have hw := hw h2 eh2
  refine mx_aload_n (r := some v0) hx hb d_Bus_init_9 rfl (lv_at hl 0 rfl) ?_
  refine lv_iload_n hx hb d_Bus_init_10 rfl (lv_at hl 2 rfl) ?_
  obtain ⟨t3, hw⟩ := hw
  refine mx_putF (ci := 1) (C := "NetJoins$Bus") (T := F_Bus) (N := 4) (v := .int x2) (h' := sI h2 101 v0 x2) hx hb hW hown hK.1 hR (a := v0) rfl t3 rfl i_Bus t_Bus t_Bus_ok n_Bus 1 0 (by decide) rfl kw_1062 (fun _ h9 => h9) rfl hnm rfl rfl rfl d_Bus_init_11 rfl (toE_sI (ci := 1) (k := 1) t3 rfl) (fun H locs hR => ?_)
  obtain ⟨h4, eh4⟩ : ∃ z, z = sI h2 101 v0 x2 := ⟨_, rfl⟩
  rw [← eh4] at hR
  have hw := hw h4 eh4
  refine mx_aload_n (r := some v0) hx hb d_Bus_init_14 rfl (lv_at hl 0 rfl) ?_
  refine lv_iload_n hx hb d_Bus_init_15 rfl (lv_at hl 3 rfl) ?_
  obtain ⟨t5, hw⟩ := hw
  refine mx_putF (ci := 1) (C := "NetJoins$Bus") (T := F_Bus) (N := 4) (v := .int x3) (h' := sI h4 102 v0 x3) hx hb hW hown hK.1 hR (a := v0) rfl t5 rfl i_Bus t_Bus t_Bus_ok n_Bus 2 0 (by decide) rfl kw_1064 (fun _ h9 => h9) rfl hnm rfl rfl rfl d_Bus_init_16 rfl (toE_sI (ci := 1) (k := 2) t5 rfl) (fun H locs hR => ?_)
  obtain ⟨h6, eh6⟩ : ∃ z, z = sI h4 102 v0 x3 := ⟨_, rfl⟩
  rw [← eh6] at hR
  have hw := hw h6 eh6
  refine mx_aload_n (r := some v0) hx hb d_Bus_init_19 rfl (lv_at hl 0 rfl) ?_
  refine lv_iload hx hb d_Bus_init_20 (lv_at hl 4 rfl) ?_
  obtain ⟨t7, hw⟩ := hw
  refine mx_putF (ci := 1) (C := "NetJoins$Bus") (T := F_Bus) (N := 4) (v := .int x4) (h' := sI h6 103 v0 x4) hx hb hW hown hK.1 hR (a := v0) rfl t7 rfl i_Bus t_Bus t_Bus_ok n_Bus 3 0 (by decide) rfl kw_1066 (fun _ h9 => h9) rfl hnm rfl rfl rfl d_Bus_init_22 rfl (toE_sI (ci := 1) (k := 3) t7 rfl) (fun H locs hR => ?_)
  obtain ⟨h8, eh8⟩ : ∃ z, z = sI h6 103 v0 x4 := ⟨_, rfl⟩
  rw [← eh8] at hR
  have hw := hw h8 eh8
  exact mx_vret hx hb hr hlocks hR hw d_Bus_init_25
set_option maxHeartbeats 4000000 in
set_option maxRecDepth 100000 in
theorem mt_Port_init (l : Launch) (D : va_G) (cs : CS) (Z : Nat → Nat) (sz : Nat) {post : HS → Prop} {h : HS} {v0 : Nat} {x1 : Int32} {x2 : Int32} {x3 : Int32} {x4 : Int32} {x5 : Int32} (hw : wp_Port_init Z post h v0 x1 x2 x3 x4 x5) : Met l y_Port_init (Cond.code y_Port_init c_Port_init 6 none :: WA) ({ frames := 2, cells := 0, slots := 0, locals := 100 } : Room) (mPc D cs Z h sz [va_rf (some v0), .int x1, .int x2, .int x3, .int x4, .int x5]) (va_Qv post (mB D cs h sz) (fA h sz)) 0 0 (fA h sz) := by
  refine mx_met (fun sz => va_Qv post (mB D cs h sz) (fA h sz)) (by decide) (by simp [lg_sl, mx_rf_cat, cat_i, cat_l]) ?_
  intro p e s m args below meth c C hR ls hl
  have hl : lv_has ls 6 [(0, va_rf (some v0)), (1, .int x1), (2, .int x2), (3, .int x3), (4, .int x4), (5, .int x5)] := hl
  obtain ⟨hx, hb, hr, hml, hown, hW, hlocks, hnm, hK, hZ⟩ := id C
  have hown : s.vm.findClass "NetJoins$Port" = some m.cls := hown
  have hA : ∀ q, s.heap.size ≤ q → fA h s.heap.size q := fun _ h => Or.inr h
  unfold wp_Port_init at hw
  refine mx_aload_n (r := some v0) hx hb d_Port_init_0 rfl (lv_at hl 0 rfl) ?_
  refine W.objInit hx hb hown (hW _ kw_1022) (hW _ kw_37) (hW _ kw_38) rfl (by rw [hml]; exact hl.1) rfl d_Port_init_1 (Nat.le_of_ble_eq_true rfl) (Nat.le_of_ble_eq_true rfl) ?_
  refine W.eq (g2 := F0 m 4 ls []) rfl ?_
  refine mx_aload_n (r := some v0) hx hb d_Port_init_4 rfl (lv_at hl 0 rfl) ?_
  refine lv_iload_n hx hb d_Port_init_5 rfl (lv_at hl 1 rfl) ?_
  obtain ⟨t1, hw⟩ := hw
  refine mx_putF (ci := 4) (C := "NetJoins$Port") (T := F_Port) (N := 5) (v := .int x1) (h' := sI h 400 v0 x1) hx hb hW hown hK.1 hR (a := v0) rfl t1 rfl i_Port t_Port t_Port_ok n_Port 0 0 (by decide) rfl kw_1023 (fun _ h9 => h9) rfl hnm rfl rfl rfl d_Port_init_6 rfl (toE_sI (ci := 4) (k := 0) t1 rfl) (fun H locs hR => ?_)
  obtain ⟨h2, eh2⟩ : ∃ z, z = sI h 400 v0 x1 := ⟨_, rfl⟩
  rw [← eh2] at hR
  have hw := hw h2 eh2
  refine mx_aload_n (r := some v0) hx hb d_Port_init_9 rfl (lv_at hl 0 rfl) ?_
  refine lv_iload_n hx hb d_Port_init_10 rfl (lv_at hl 2 rfl) ?_
  obtain ⟨t3, hw⟩ := hw
  refine mx_putF (ci := 4) (C := "NetJoins$Port") (T := F_Port) (N := 5) (v := .int x2) (h' := sI h2 401 v0 x2) hx hb hW hown hK.1 hR (a := v0) rfl t3 rfl i_Port t_Port t_Port_ok n_Port 1 0 (by decide) rfl kw_1025 (fun _ h9 => h9) rfl hnm rfl rfl rfl d_Port_init_11 rfl (toE_sI (ci := 4) (k := 1) t3 rfl) (fun H locs hR => ?_)
  obtain ⟨h4, eh4⟩ : ∃ z, z = sI h2 401 v0 x2 := ⟨_, rfl⟩
  rw [← eh4] at hR
  have hw := hw h4 eh4
  refine mx_aload_n (r := some v0) hx hb d_Port_init_14 rfl (lv_at hl 0 rfl) ?_
  refine lv_iload_n hx hb d_Port_init_15 rfl (lv_at hl 3 rfl) ?_
  obtain ⟨t5, hw⟩ := hw
  refine mx_putF (ci := 4) (C := "NetJoins$Port") (T := F_Port) (N := 5) (v := .int x3) (h' := sI h4 402 v0 x3) hx hb hW hown hK.1 hR (a := v0) rfl t5 rfl i_Port t_Port t_Port_ok n_Port 2 0 (by decide) rfl kw_1027 (fun _ h9 => h9) rfl hnm rfl rfl rfl d_Port_init_16 rfl (toE_sI (ci := 4) (k := 2) t5 rfl) (fun H locs hR => ?_)
  obtain ⟨h6, eh6⟩ : ∃ z, z = sI h4 402 v0 x3 := ⟨_, rfl⟩
  rw [← eh6] at hR
  have hw := hw h6 eh6
  refine mx_aload_n (r := some v0) hx hb d_Port_init_19 rfl (lv_at hl 0 rfl) ?_
  refine lv_iload hx hb d_Port_init_20 (lv_at hl 4 rfl) ?_
  obtain ⟨t7, hw⟩ := hw
  refine mx_putF (ci := 4) (C := "NetJoins$Port") (T := F_Port) (N := 5) (v := .int x4) (h' := sI h6 403 v0 x4) hx hb hW hown hK.1 hR (a := v0) rfl t7 rfl i_Port t_Port t_Port_ok n_Port 3 0 (by decide) rfl kw_1029 (fun _ h9 => h9) rfl hnm rfl rfl rfl d_Port_init_22 rfl (toE_sI (ci := 4) (k := 3) t7 rfl) (fun H locs hR => ?_)
  obtain ⟨h8, eh8⟩ : ∃ z, z = sI h6 403 v0 x4 := ⟨_, rfl⟩
  rw [← eh8] at hR
  have hw := hw h8 eh8
  refine mx_aload_n (r := some v0) hx hb d_Port_init_25 rfl (lv_at hl 0 rfl) ?_
  refine lv_iload hx hb d_Port_init_26 (lv_at hl 5 rfl) ?_
  obtain ⟨t9, hw⟩ := hw
  refine mx_putF (ci := 4) (C := "NetJoins$Port") (T := F_Port) (N := 5) (v := .int x5) (h' := sI h8 404 v0 x5) hx hb hW hown hK.1 hR (a := v0) rfl t9 rfl i_Port t_Port t_Port_ok n_Port 4 0 (by decide) rfl kw_1031 (fun _ h9 => h9) rfl hnm rfl rfl rfl d_Port_init_28 rfl (toE_sI (ci := 4) (k := 4) t9 rfl) (fun H locs hR => ?_)
  obtain ⟨h10, eh10⟩ : ∃ z, z = sI h8 404 v0 x5 := ⟨_, rfl⟩
  rw [← eh10] at hR
  have hw := hw h10 eh10
  exact mx_vret hx hb hr hlocks hR hw d_Port_init_31
set_option maxHeartbeats 4000000 in
set_option maxRecDepth 100000 in
theorem mt_Sheet_init (l : Launch) (D : va_G) (cs : CS) (Z : Nat → Nat) (sz : Nat) {post : HS → Prop} {h : HS} {v0 : Nat} {x1 : Int32} {x2 : Int32} {x3 : Int32} {x4 : Int32} (hw : wp_Sheet_init Z post h v0 x1 x2 x3 x4) : Met l y_Sheet_init (Cond.code y_Sheet_init c_Sheet_init 5 none :: WA) ({ frames := 2, cells := 0, slots := 0, locals := 100 } : Room) (mPc D cs Z h sz [va_rf (some v0), .int x1, .int x2, .int x3, .int x4]) (va_Qv post (mB D cs h sz) (fA h sz)) 0 0 (fA h sz) := by
  refine mx_met (fun sz => va_Qv post (mB D cs h sz) (fA h sz)) (by decide) (by simp [lg_sl, mx_rf_cat, cat_i, cat_l]) ?_
  intro p e s m args below meth c C hR ls hl
  have hl : lv_has ls 5 [(0, va_rf (some v0)), (1, .int x1), (2, .int x2), (3, .int x3), (4, .int x4)] := hl
  obtain ⟨hx, hb, hr, hml, hown, hW, hlocks, hnm, hK, hZ⟩ := id C
  have hown : s.vm.findClass "NetJoins$Sheet" = some m.cls := hown
  have hA : ∀ q, s.heap.size ≤ q → fA h s.heap.size q := fun _ h => Or.inr h
  unfold wp_Sheet_init at hw
  refine mx_aload_n (r := some v0) hx hb d_Sheet_init_0 rfl (lv_at hl 0 rfl) ?_
  refine W.objInit hx hb hown (hW _ kw_520) (hW _ kw_37) (hW _ kw_38) rfl (by rw [hml]; exact hl.1) rfl d_Sheet_init_1 (Nat.le_of_ble_eq_true rfl) (Nat.le_of_ble_eq_true rfl) ?_
  refine W.eq (g2 := F0 m 4 ls []) rfl ?_
  refine mx_aload_n (r := some v0) hx hb d_Sheet_init_4 rfl (lv_at hl 0 rfl) ?_
  refine lv_iload_n hx hb d_Sheet_init_5 rfl (lv_at hl 1 rfl) ?_
  obtain ⟨t1, hw⟩ := hw
  refine mx_putF (ci := 5) (C := "NetJoins$Sheet") (T := F_Sheet) (N := 5) (v := .int x1) (h' := sI h 500 v0 x1) hx hb hW hown hK.1 hR (a := v0) rfl t1 rfl i_Sheet t_Sheet t_Sheet_ok n_Sheet 0 0 (by decide) rfl kw_521 (fun _ h9 => h9) rfl hnm rfl rfl rfl d_Sheet_init_6 rfl (toE_sI (ci := 5) (k := 0) t1 rfl) (fun H locs hR => ?_)
  obtain ⟨h2, eh2⟩ : ∃ z, z = sI h 500 v0 x1 := ⟨_, rfl⟩
  rw [← eh2] at hR
  have hw := hw h2 eh2
  refine mx_aload_n (r := some v0) hx hb d_Sheet_init_9 rfl (lv_at hl 0 rfl) ?_
  refine lv_iload_n hx hb d_Sheet_init_10 rfl (lv_at hl 2 rfl) ?_
  obtain ⟨t3, hw⟩ := hw
  refine mx_putF (ci := 5) (C := "NetJoins$Sheet") (T := F_Sheet) (N := 5) (v := .int x2) (h' := sI h2 501 v0 x2) hx hb hW hown hK.1 hR (a := v0) rfl t3 rfl i_Sheet t_Sheet t_Sheet_ok n_Sheet 1 0 (by decide) rfl kw_523 (fun _ h9 => h9) rfl hnm rfl rfl rfl d_Sheet_init_11 rfl (toE_sI (ci := 5) (k := 1) t3 rfl) (fun H locs hR => ?_)
  obtain ⟨h4, eh4⟩ : ∃ z, z = sI h2 501 v0 x2 := ⟨_, rfl⟩
  rw [← eh4] at hR
  have hw := hw h4 eh4
  refine mx_aload_n (r := some v0) hx hb d_Sheet_init_14 rfl (lv_at hl 0 rfl) ?_
  refine lv_iload_n hx hb d_Sheet_init_15 rfl (lv_at hl 3 rfl) ?_
  obtain ⟨t5, hw⟩ := hw
  refine mx_putF (ci := 5) (C := "NetJoins$Sheet") (T := F_Sheet) (N := 5) (v := .int x3) (h' := sI h4 502 v0 x3) hx hb hW hown hK.1 hR (a := v0) rfl t5 rfl i_Sheet t_Sheet t_Sheet_ok n_Sheet 2 0 (by decide) rfl kw_525 (fun _ h9 => h9) rfl hnm rfl rfl rfl d_Sheet_init_16 rfl (toE_sI (ci := 5) (k := 2) t5 rfl) (fun H locs hR => ?_)
  obtain ⟨h6, eh6⟩ : ∃ z, z = sI h4 502 v0 x3 := ⟨_, rfl⟩
  rw [← eh6] at hR
  have hw := hw h6 eh6
  refine mx_aload_n (r := some v0) hx hb d_Sheet_init_19 rfl (lv_at hl 0 rfl) ?_
  refine lv_iload hx hb d_Sheet_init_20 (lv_at hl 4 rfl) ?_
  obtain ⟨t7, hw⟩ := hw
  refine mx_putF (ci := 5) (C := "NetJoins$Sheet") (T := F_Sheet) (N := 5) (v := .int x4) (h' := sI h6 503 v0 x4) hx hb hW hown hK.1 hR (a := v0) rfl t7 rfl i_Sheet t_Sheet t_Sheet_ok n_Sheet 3 0 (by decide) rfl kw_527 (fun _ h9 => h9) rfl hnm rfl rfl rfl d_Sheet_init_22 rfl (toE_sI (ci := 5) (k := 3) t7 rfl) (fun H locs hR => ?_)
  obtain ⟨h8, eh8⟩ : ∃ z, z = sI h6 503 v0 x4 := ⟨_, rfl⟩
  rw [← eh8] at hR
  have hw := hw h8 eh8
  refine mx_aload_n (r := some v0) hx hb d_Sheet_init_25 rfl (lv_at hl 0 rfl) ?_
  refine lv_iconst (v := 1) hx hb d_Sheet_init_26 (by decide) ?_
  obtain ⟨t9, hw⟩ := hw
  refine mx_put (ci := 5) (C := "NetJoins$Sheet") (T := F_Sheet) (N := 5) (v := .int (1 : Int32)) (h' := sI h8 504 v0 (1 : Int32)) hx hb hW hown hK.1 hR (a := v0) rfl t9 rfl i_Sheet t_Sheet t_Sheet_ok n_Sheet 4 0 (by decide) rfl kw_529 (fun _ h9 => h9) rfl rfl rfl d_Sheet_init_27 rfl (toE_sI (ci := 5) (k := 4) t9 rfl) (fun H locs hR => ?_)
  obtain ⟨h10, eh10⟩ : ∃ z, z = sI h8 504 v0 (1 : Int32) := ⟨_, rfl⟩
  rw [← eh10] at hR
  have hw := hw h10 eh10
  exact mx_vret hx hb hr hlocks hR hw d_Sheet_init_30
set_option maxHeartbeats 4000000 in
set_option maxRecDepth 100000 in
theorem mt_Spot_isAt (l : Launch) (D : va_G) (cs : CS) (Z : Nat → Nat) (sz : Nat) {post : Int32 → HS → Prop} {h : HS} {v0 : Nat} {x1 : Int32} {x2 : Int64} {x4 : Int64} (hw : wp_Spot_isAt Z post h v0 x1 x2 x4) : Met l y_Spot_isAt (Cond.code y_Spot_isAt c_Spot_isAt 6 (some .boolean) :: WA) ({ frames := 2, cells := 0, slots := 0, locals := 100 } : Room) (mPc D cs Z h sz [va_rf (some v0), .int x1, .long x2, .long x4]) (va_Qi post (mB D cs h sz) (fA h sz)) 0 0 (fA h sz) := by
  refine mx_met (fun sz => va_Qi post (mB D cs h sz) (fA h sz)) (by decide) (by simp [lg_sl, mx_rf_cat, cat_i, cat_l]) ?_
  intro p e s m args below meth c C hR ls hl
  have hl : lv_has ls 6 [(0, va_rf (some v0)), (1, .int x1), (2, .long x2), (4, .long x4)] := hl
  obtain ⟨hx, hb, hr, hml, hown, hW, hlocks, hnm, hK, hZ⟩ := id C
  have hown : s.vm.findClass "NetJoins$Spot" = some m.cls := hown
  have hA : ∀ q, s.heap.size ≤ q → fA h s.heap.size q := fun _ h => Or.inr h
  unfold wp_Spot_isAt at hw
  refine mx_aload_n (r := some v0) hx hb d_Spot_isAt_0 rfl (lv_at hl 0 rfl) ?_
  obtain ⟨t1, hw⟩ := hw
  refine mx_get (ci := 6) (C := "NetJoins$Spot") (T := F_Spot) (N := 6) hx hb hW hown hK.1 hR (a := v0) rfl t1 rfl i_Spot 0 0 (by decide) rfl kw_698 (fun _ h9 => h9) d_Spot_isAt_1 ?_
  refine lv_iload_n hx hb d_Spot_isAt_4 rfl (lv_at hl 1 rfl) ?_
  refine lv_icmp_ne (tgt := 31) hx hb d_Spot_isAt_5 (by decide) (fun c2 => ?_) (fun c2 => ?_)
  · have hw := hw.1 c2
    refine lv_iconst (v := 0) hx hb d_Spot_isAt_31 (by decide) ?_
    exact mx_zret hx hb hr hlocks hR (Or.inl rfl) hw d_Spot_isAt_32
  · have hw := hw.2 c2
    refine mx_aload_n (r := some v0) hx hb d_Spot_isAt_8 rfl (lv_at hl 0 rfl) ?_
    obtain ⟨t3, hw⟩ := hw
    refine mx_get (ci := 6) (C := "NetJoins$Spot") (T := F_Spot) (N := 6) hx hb hW hown hK.1 hR (a := v0) rfl t3 rfl i_Spot 1 1 (by decide) rfl kw_701 (fun _ h9 => h9) d_Spot_isAt_9 ?_
    refine lv_lload_n hx hb d_Spot_isAt_12 rfl (lv_at hl 2 rfl) ?_
    refine W.lcmp hx hb d_Spot_isAt_13 ?_
    refine lv_if_ne (tgt := 31) hx hb d_Spot_isAt_14 (by decide) (fun c4 => ?_) (fun c4 => ?_)
    · have hw := hw.1 c4
      refine lv_iconst (v := 0) hx hb d_Spot_isAt_31 (by decide) ?_
      exact mx_zret hx hb hr hlocks hR (Or.inl rfl) hw d_Spot_isAt_32
    · have hw := hw.2 c4
      refine mx_aload_n (r := some v0) hx hb d_Spot_isAt_17 rfl (lv_at hl 0 rfl) ?_
      obtain ⟨t5, hw⟩ := hw
      refine mx_get (ci := 6) (C := "NetJoins$Spot") (T := F_Spot) (N := 6) hx hb hW hown hK.1 hR (a := v0) rfl t5 rfl i_Spot 2 1 (by decide) rfl kw_704 (fun _ h9 => h9) d_Spot_isAt_18 ?_
      refine lv_lload hx hb d_Spot_isAt_21 (lv_at hl 3 rfl) ?_
      refine W.lcmp hx hb d_Spot_isAt_23 ?_
      refine lv_if_ne (tgt := 31) hx hb d_Spot_isAt_24 (by decide) (fun c6 => ?_) (fun c6 => ?_)
      · have hw := hw.1 c6
        refine lv_iconst (v := 0) hx hb d_Spot_isAt_31 (by decide) ?_
        exact mx_zret hx hb hr hlocks hR (Or.inl rfl) hw d_Spot_isAt_32
      · have hw := hw.2 c6
        refine lv_iconst (v := 1) hx hb d_Spot_isAt_27 (by decide) ?_
        refine lv_goto (tgt := 32) hx hb d_Spot_isAt_28 (by decide) ?_
        exact mx_zret hx hb hr hlocks hR (Or.inr rfl) hw d_Spot_isAt_32
set_option maxHeartbeats 4000000 in
set_option maxRecDepth 100000 in
theorem mt_Spot_init (l : Launch) (D : va_G) (cs : CS) (Z : Nat → Nat) (sz : Nat) {post : HS → Prop} {h : HS} {v0 : Nat} {x1 : Int32} {x2 : Int64} {x4 : Int64} {x6 : Int32} {x7 : Int32} (hw : wp_Spot_init Z post h v0 x1 x2 x4 x6 x7) : Met l y_Spot_init (Cond.code y_Spot_init c_Spot_init 8 none :: WA) ({ frames := 2, cells := 0, slots := 0, locals := 100 } : Room) (mPc D cs Z h sz [va_rf (some v0), .int x1, .long x2, .long x4, .int x6, .int x7]) (va_Qv post (mB D cs h sz) (fA h sz)) 0 0 (fA h sz) := by
  refine mx_met (fun sz => va_Qv post (mB D cs h sz) (fA h sz)) (by decide) (by simp [lg_sl, mx_rf_cat, cat_i, cat_l]) ?_
  intro p e s m args below meth c C hR ls hl
  have hl : lv_has ls 8 [(0, va_rf (some v0)), (1, .int x1), (2, .long x2), (4, .long x4), (6, .int x6), (7, .int x7)] := hl
  obtain ⟨hx, hb, hr, hml, hown, hW, hlocks, hnm, hK, hZ⟩ := id C
  have hown : s.vm.findClass "NetJoins$Spot" = some m.cls := hown
  have hA : ∀ q, s.heap.size ≤ q → fA h s.heap.size q := fun _ h => Or.inr h
  unfold wp_Spot_init at hw
  refine mx_aload_n (r := some v0) hx hb d_Spot_init_0 rfl (lv_at hl 0 rfl) ?_
  refine W.objInit hx hb hown (hW _ kw_697) (hW _ kw_37) (hW _ kw_38) rfl (by rw [hml]; exact hl.1) rfl d_Spot_init_1 (Nat.le_of_ble_eq_true rfl) (Nat.le_of_ble_eq_true rfl) ?_
  refine W.eq (g2 := F0 m 4 ls []) rfl ?_
  refine mx_aload_n (r := some v0) hx hb d_Spot_init_4 rfl (lv_at hl 0 rfl) ?_
  refine lv_iload_n hx hb d_Spot_init_5 rfl (lv_at hl 1 rfl) ?_
  obtain ⟨t1, hw⟩ := hw
  refine mx_putF (ci := 6) (C := "NetJoins$Spot") (T := F_Spot) (N := 6) (v := .int x1) (h' := sI h 600 v0 x1) hx hb hW hown hK.1 hR (a := v0) rfl t1 rfl i_Spot t_Spot t_Spot_ok n_Spot 0 0 (by decide) rfl kw_698 (fun _ h9 => h9) rfl hnm rfl rfl rfl d_Spot_init_6 rfl (toE_sI (ci := 6) (k := 0) t1 rfl) (fun H locs hR => ?_)
  obtain ⟨h2, eh2⟩ : ∃ z, z = sI h 600 v0 x1 := ⟨_, rfl⟩
  rw [← eh2] at hR
  have hw := hw h2 eh2
  refine mx_aload_n (r := some v0) hx hb d_Spot_init_9 rfl (lv_at hl 0 rfl) ?_
  refine lv_lload_n hx hb d_Spot_init_10 rfl (lv_at hl 2 rfl) ?_
  obtain ⟨t3, hw⟩ := hw
  refine mx_putF (ci := 6) (C := "NetJoins$Spot") (T := F_Spot) (N := 6) (v := .long x2) (h' := sJ h2 601 v0 x2) hx hb hW hown hK.1 hR (a := v0) rfl t3 rfl i_Spot t_Spot t_Spot_ok n_Spot 1 1 (by decide) rfl kw_701 (fun _ h9 => h9) rfl hnm rfl rfl rfl d_Spot_init_11 rfl (toE_sJ (ci := 6) (k := 1) t3 rfl) (fun H locs hR => ?_)
  obtain ⟨h4, eh4⟩ : ∃ z, z = sJ h2 601 v0 x2 := ⟨_, rfl⟩
  rw [← eh4] at hR
  have hw := hw h4 eh4
  refine mx_aload_n (r := some v0) hx hb d_Spot_init_14 rfl (lv_at hl 0 rfl) ?_
  refine lv_lload hx hb d_Spot_init_15 (lv_at hl 3 rfl) ?_
  obtain ⟨t5, hw⟩ := hw
  refine mx_putF (ci := 6) (C := "NetJoins$Spot") (T := F_Spot) (N := 6) (v := .long x4) (h' := sJ h4 602 v0 x4) hx hb hW hown hK.1 hR (a := v0) rfl t5 rfl i_Spot t_Spot t_Spot_ok n_Spot 2 1 (by decide) rfl kw_704 (fun _ h9 => h9) rfl hnm rfl rfl rfl d_Spot_init_17 rfl (toE_sJ (ci := 6) (k := 2) t5 rfl) (fun H locs hR => ?_)
  obtain ⟨h6, eh6⟩ : ∃ z, z = sJ h4 602 v0 x4 := ⟨_, rfl⟩
  rw [← eh6] at hR
  have hw := hw h6 eh6
  refine mx_aload_n (r := some v0) hx hb d_Spot_init_20 rfl (lv_at hl 0 rfl) ?_
  refine lv_iload hx hb d_Spot_init_21 (lv_at hl 4 rfl) ?_
  obtain ⟨t7, hw⟩ := hw
  refine mx_putF (ci := 6) (C := "NetJoins$Spot") (T := F_Spot) (N := 6) (v := .int x6) (h' := sI h6 603 v0 x6) hx hb hW hown hK.1 hR (a := v0) rfl t7 rfl i_Spot t_Spot t_Spot_ok n_Spot 3 0 (by decide) rfl kw_707 (fun _ h9 => h9) rfl hnm rfl rfl rfl d_Spot_init_23 rfl (toE_sI (ci := 6) (k := 3) t7 rfl) (fun H locs hR => ?_)
  obtain ⟨h8, eh8⟩ : ∃ z, z = sI h6 603 v0 x6 := ⟨_, rfl⟩
  rw [← eh8] at hR
  have hw := hw h8 eh8
  refine mx_aload_n (r := some v0) hx hb d_Spot_init_26 rfl (lv_at hl 0 rfl) ?_
  refine lv_iload hx hb d_Spot_init_27 (lv_at hl 5 rfl) ?_
  obtain ⟨t9, hw⟩ := hw
  refine mx_putF (ci := 6) (C := "NetJoins$Spot") (T := F_Spot) (N := 6) (v := .int x7) (h' := sI h8 604 v0 x7) hx hb hW hown hK.1 hR (a := v0) rfl t9 rfl i_Spot t_Spot t_Spot_ok n_Spot 4 0 (by decide) rfl kw_709 (fun _ h9 => h9) rfl hnm rfl rfl rfl d_Spot_init_29 rfl (toE_sI (ci := 6) (k := 4) t9 rfl) (fun H locs hR => ?_)
  obtain ⟨h10, eh10⟩ : ∃ z, z = sI h8 604 v0 x7 := ⟨_, rfl⟩
  rw [← eh10] at hR
  have hw := hw h10 eh10
  exact mx_vret hx hb hr hlocks hR hw d_Spot_init_32
set_option maxHeartbeats 4000000 in
set_option maxRecDepth 100000 in
theorem mt_Wire_isOn (l : Launch) (D : va_G) (cs : CS) (Z : Nat → Nat) (sz : Nat) {post : Int32 → HS → Prop} {h : HS} {v0 : Nat} {x1 : Int32} (hw : wp_Wire_isOn Z post h v0 x1) : Met l y_Wire_isOn (Cond.code y_Wire_isOn c_Wire_isOn 2 (some .boolean) :: WA) ({ frames := 2, cells := 0, slots := 0, locals := 100 } : Room) (mPc D cs Z h sz [va_rf (some v0), .int x1]) (va_Qi post (mB D cs h sz) (fA h sz)) 0 0 (fA h sz) := by
  refine mx_met (fun sz => va_Qi post (mB D cs h sz) (fA h sz)) (by decide) (by simp [lg_sl, mx_rf_cat, cat_i, cat_l]) ?_
  intro p e s m args below meth c C hR ls hl
  have hl : lv_has ls 2 [(0, va_rf (some v0)), (1, .int x1)] := hl
  obtain ⟨hx, hb, hr, hml, hown, hW, hlocks, hnm, hK, hZ⟩ := id C
  have hown : s.vm.findClass "NetJoins$Wire" = some m.cls := hown
  have hA : ∀ q, s.heap.size ≤ q → fA h s.heap.size q := fun _ h => Or.inr h
  unfold wp_Wire_isOn at hw
  refine mx_aload_n (r := some v0) hx hb d_Wire_isOn_0 rfl (lv_at hl 0 rfl) ?_
  obtain ⟨t1, hw⟩ := hw
  refine mx_get (ci := 7) (C := "NetJoins$Wire") (T := F_Wire) (N := 7) hx hb hW hown hK.1 hR (a := v0) rfl t1 rfl i_Wire 6 0 (by decide) rfl kw_657 (fun _ h9 => h9) d_Wire_isOn_1 ?_
  refine lv_if_ne (tgt := 19) hx hb d_Wire_isOn_4 (by decide) (fun c2 => ?_) (fun c2 => ?_)
  · have hw := hw.1 c2
    refine lv_iconst (v := 0) hx hb d_Wire_isOn_19 (by decide) ?_
    exact mx_zret hx hb hr hlocks hR (Or.inl rfl) hw d_Wire_isOn_20
  · have hw := hw.2 c2
    refine mx_aload_n (r := some v0) hx hb d_Wire_isOn_7 rfl (lv_at hl 0 rfl) ?_
    obtain ⟨t3, hw⟩ := hw
    refine mx_get (ci := 7) (C := "NetJoins$Wire") (T := F_Wire) (N := 7) hx hb hW hown hK.1 hR (a := v0) rfl t3 rfl i_Wire 0 0 (by decide) rfl kw_649 (fun _ h9 => h9) d_Wire_isOn_8 ?_
    refine lv_iload_n hx hb d_Wire_isOn_11 rfl (lv_at hl 1 rfl) ?_
    refine lv_icmp_ne (tgt := 19) hx hb d_Wire_isOn_12 (by decide) (fun c4 => ?_) (fun c4 => ?_)
    · have hw := hw.1 c4
      refine lv_iconst (v := 0) hx hb d_Wire_isOn_19 (by decide) ?_
      exact mx_zret hx hb hr hlocks hR (Or.inl rfl) hw d_Wire_isOn_20
    · have hw := hw.2 c4
      refine lv_iconst (v := 1) hx hb d_Wire_isOn_15 (by decide) ?_
      refine lv_goto (tgt := 20) hx hb d_Wire_isOn_16 (by decide) ?_
      exact mx_zret hx hb hr hlocks hR (Or.inr rfl) hw d_Wire_isOn_20
set_option maxHeartbeats 4000000 in
set_option maxRecDepth 100000 in
theorem mt_Wire_goesThrough (l : Launch) (D : va_G) (cs : CS) (Z : Nat → Nat) (sz : Nat) {post : Int32 → HS → Prop} {h : HS} {v0 : Nat} {x1 : Option Nat} (hw : wp_Wire_goesThrough Z post h v0 x1) : Met l y_Wire_goesThrough (Cond.code y_Wire_goesThrough c_Wire_goesThrough 2 (some .boolean) :: WA) ({ frames := 3, cells := 0, slots := 0, locals := 121 } : Room) (mPc D cs Z h sz [va_rf (some v0), va_rf x1]) (va_Qi post (mB D cs h sz) (fA h sz)) 0 0 (fA h sz) := by
  refine mx_met (fun sz => va_Qi post (mB D cs h sz) (fA h sz)) (by decide) (by simp [lg_sl, mx_rf_cat, cat_i, cat_l]) ?_
  intro p e s m args below meth c C hR ls hl
  have hl : lv_has ls 2 [(0, va_rf (some v0)), (1, va_rf x1)] := by simpa [lv_args, mx_rf_cat, cat_i, cat_l] using hl
  obtain ⟨hx, hb, hr, hml, hown, hW, hlocks, hnm, hK, hZ⟩ := id C
  have hown : s.vm.findClass "NetJoins$Wire" = some m.cls := hown
  have hA : ∀ q, s.heap.size ≤ q → fA h s.heap.size q := fun _ h => Or.inr h
  unfold wp_Wire_goesThrough at hw
  refine mx_aload_n (r := some v0) hx hb d_Wire_goesThrough_0 rfl (lv_at hl 0 rfl) ?_
  refine mx_aload_n (r := x1) hx hb d_Wire_goesThrough_1 rfl (lv_at hl 1 rfl) ?_
  obtain ⟨a1, ea1, t2, hw⟩ := hw
  refine mx_get (ci := 6) (C := "NetJoins$Spot") (T := F_Spot) (N := 6) hx hb hW hown hK.1 hR (a := a1) ea1 t2 rfl i_Spot 0 0 (by decide) rfl kw_699 (fun _ h9 => h9) d_Wire_goesThrough_2 ?_
  obtain ⟨t5, hw⟩ := hw
  refine mx_calli (va_runV (b := v0) (As := [.int (gI h 600 a1)]) (rest := []) ⟨hx, hb, hml, hown, hW⟩ (mt_Wire_isOn l D cs Z _ hw) (mx_cwV hW ok_Wire_isOn kw_264 rfl rfl ⟨Nat.le_of_ble_eq_true rfl, Nat.le_of_ble_eq_true rfl⟩) (mx_preV hK hZ hA hR (ci := 7) rfl t5) rfl rfl hl.1 rfl (lv_room (Nat.le_of_ble_eq_true rfl)) d_Wire_goesThrough_5 ⟨Nat.le_of_ble_eq_true rfl, Nat.le_of_ble_eq_true rfl⟩) hR hA (fun r3 h4 H locs hw hR => ?_)
  try dsimp only at hw
  refine lv_if_eq (tgt := 133) hx hb d_Wire_goesThrough_8 (by decide) (fun c6 => ?_) (fun c6 => ?_)
  · have hw := hw.1 c6
    refine lv_iconst (v := 0) hx hb d_Wire_goesThrough_133 (by decide) ?_
    exact mx_zret hx hb hr hlocks hR (Or.inl rfl) hw d_Wire_goesThrough_134
  · have hw := hw.2 c6
    refine mx_aload_n (r := x1) hx hb d_Wire_goesThrough_11 rfl (lv_at hl 1 rfl) ?_
    obtain ⟨a7, ea7, t8, hw⟩ := hw
    refine mx_get (ci := 6) (C := "NetJoins$Spot") (T := F_Spot) (N := 6) hx hb hW hown hK.1 hR (a := a7) ea7 t8 rfl i_Spot 1 1 (by decide) rfl kw_702 (fun _ h9 => h9) d_Wire_goesThrough_12 ?_
    refine mx_aload_n (r := some v0) hx hb d_Wire_goesThrough_15 rfl (lv_at hl 0 rfl) ?_
    obtain ⟨t9, hw⟩ := hw
    refine mx_get (ci := 7) (C := "NetJoins$Wire") (T := F_Wire) (N := 7) hx hb hW hown hK.1 hR (a := v0) rfl t9 rfl i_Wire 2 1 (by decide) rfl kw_653 (fun _ h9 => h9) d_Wire_goesThrough_16 ?_
    refine mx_aload_n (r := some v0) hx hb d_Wire_goesThrough_19 rfl (lv_at hl 0 rfl) ?_
    obtain ⟨t10, hw⟩ := hw
    refine mx_get (ci := 7) (C := "NetJoins$Wire") (T := F_Wire) (N := 7) hx hb hW hown hK.1 hR (a := v0) rfl t10 rfl i_Wire 4 1 (by decide) rfl kw_655 (fun _ h9 => h9) d_Wire_goesThrough_20 ?_
    refine va_mmin_long hx hb (by rw [hml]; exact hl.1.symm) hown (hW _ kw_268) (hW _ kw_269) (hW _ kw_18) (hW _ kw_270) (Nat.le_of_ble_eq_true rfl) (Nat.le_of_ble_eq_true rfl) (Nat.le_of_ble_eq_true rfl) (Nat.le_of_ble_eq_true rfl) d_Wire_goesThrough_23 ?_
    refine W.lcmp hx hb d_Wire_goesThrough_26 ?_
    refine lv_if_lt (tgt := 133) hx hb d_Wire_goesThrough_27 (by decide) (fun c11 => ?_) (fun c11 => ?_)
    · have hw := hw.1 c11
      refine lv_iconst (v := 0) hx hb d_Wire_goesThrough_133 (by decide) ?_
      exact mx_zret hx hb hr hlocks hR (Or.inl rfl) hw d_Wire_goesThrough_134
    · have hw := hw.2 c11
      refine mx_aload_n (r := x1) hx hb d_Wire_goesThrough_30 rfl (lv_at hl 1 rfl) ?_
      obtain ⟨a12, ea12, t13, hw⟩ := hw
      refine mx_get (ci := 6) (C := "NetJoins$Spot") (T := F_Spot) (N := 6) hx hb hW hown hK.1 hR (a := a12) ea12 t13 rfl i_Spot 1 1 (by decide) rfl kw_702 (fun _ h9 => h9) d_Wire_goesThrough_31 ?_
      refine mx_aload_n (r := some v0) hx hb d_Wire_goesThrough_34 rfl (lv_at hl 0 rfl) ?_
      obtain ⟨t14, hw⟩ := hw
      refine mx_get (ci := 7) (C := "NetJoins$Wire") (T := F_Wire) (N := 7) hx hb hW hown hK.1 hR (a := v0) rfl t14 rfl i_Wire 2 1 (by decide) rfl kw_653 (fun _ h9 => h9) d_Wire_goesThrough_35 ?_
      refine mx_aload_n (r := some v0) hx hb d_Wire_goesThrough_38 rfl (lv_at hl 0 rfl) ?_
      obtain ⟨t15, hw⟩ := hw
      refine mx_get (ci := 7) (C := "NetJoins$Wire") (T := F_Wire) (N := 7) hx hb hW hown hK.1 hR (a := v0) rfl t15 rfl i_Wire 4 1 (by decide) rfl kw_655 (fun _ h9 => h9) d_Wire_goesThrough_39 ?_
      refine va_mmax_long hx hb (by rw [hml]; exact hl.1.symm) hown (hW _ kw_271) (hW _ kw_272) (hW _ kw_18) (hW _ kw_273) (Nat.le_of_ble_eq_true rfl) (Nat.le_of_ble_eq_true rfl) (Nat.le_of_ble_eq_true rfl) (Nat.le_of_ble_eq_true rfl) d_Wire_goesThrough_42 ?_
      refine W.lcmp hx hb d_Wire_goesThrough_45 ?_
      refine lv_if_gt (tgt := 133) hx hb d_Wire_goesThrough_46 (by decide) (fun c16 => ?_) (fun c16 => ?_)
      · have hw := hw.1 c16
        refine lv_iconst (v := 0) hx hb d_Wire_goesThrough_133 (by decide) ?_
        exact mx_zret hx hb hr hlocks hR (Or.inl rfl) hw d_Wire_goesThrough_134
      · have hw := hw.2 c16
        refine mx_aload_n (r := x1) hx hb d_Wire_goesThrough_49 rfl (lv_at hl 1 rfl) ?_
        obtain ⟨a17, ea17, t18, hw⟩ := hw
        refine mx_get (ci := 6) (C := "NetJoins$Spot") (T := F_Spot) (N := 6) hx hb hW hown hK.1 hR (a := a17) ea17 t18 rfl i_Spot 2 1 (by decide) rfl kw_705 (fun _ h9 => h9) d_Wire_goesThrough_50 ?_
        refine mx_aload_n (r := some v0) hx hb d_Wire_goesThrough_53 rfl (lv_at hl 0 rfl) ?_
        obtain ⟨t19, hw⟩ := hw
        refine mx_get (ci := 7) (C := "NetJoins$Wire") (T := F_Wire) (N := 7) hx hb hW hown hK.1 hR (a := v0) rfl t19 rfl i_Wire 3 1 (by decide) rfl kw_654 (fun _ h9 => h9) d_Wire_goesThrough_54 ?_
        refine mx_aload_n (r := some v0) hx hb d_Wire_goesThrough_57 rfl (lv_at hl 0 rfl) ?_
        obtain ⟨t20, hw⟩ := hw
        refine mx_get (ci := 7) (C := "NetJoins$Wire") (T := F_Wire) (N := 7) hx hb hW hown hK.1 hR (a := v0) rfl t20 rfl i_Wire 5 1 (by decide) rfl kw_656 (fun _ h9 => h9) d_Wire_goesThrough_58 ?_
        refine va_mmin_long hx hb (by rw [hml]; exact hl.1.symm) hown (hW _ kw_268) (hW _ kw_269) (hW _ kw_18) (hW _ kw_270) (Nat.le_of_ble_eq_true rfl) (Nat.le_of_ble_eq_true rfl) (Nat.le_of_ble_eq_true rfl) (Nat.le_of_ble_eq_true rfl) d_Wire_goesThrough_61 ?_
        refine W.lcmp hx hb d_Wire_goesThrough_64 ?_
        refine lv_if_lt (tgt := 133) hx hb d_Wire_goesThrough_65 (by decide) (fun c21 => ?_) (fun c21 => ?_)
        · have hw := hw.1 c21
          refine lv_iconst (v := 0) hx hb d_Wire_goesThrough_133 (by decide) ?_
          exact mx_zret hx hb hr hlocks hR (Or.inl rfl) hw d_Wire_goesThrough_134
        · have hw := hw.2 c21
          refine mx_aload_n (r := x1) hx hb d_Wire_goesThrough_68 rfl (lv_at hl 1 rfl) ?_
          obtain ⟨a22, ea22, t23, hw⟩ := hw
          refine mx_get (ci := 6) (C := "NetJoins$Spot") (T := F_Spot) (N := 6) hx hb hW hown hK.1 hR (a := a22) ea22 t23 rfl i_Spot 2 1 (by decide) rfl kw_705 (fun _ h9 => h9) d_Wire_goesThrough_69 ?_
          refine mx_aload_n (r := some v0) hx hb d_Wire_goesThrough_72 rfl (lv_at hl 0 rfl) ?_
          obtain ⟨t24, hw⟩ := hw
          refine mx_get (ci := 7) (C := "NetJoins$Wire") (T := F_Wire) (N := 7) hx hb hW hown hK.1 hR (a := v0) rfl t24 rfl i_Wire 3 1 (by decide) rfl kw_654 (fun _ h9 => h9) d_Wire_goesThrough_73 ?_
          refine mx_aload_n (r := some v0) hx hb d_Wire_goesThrough_76 rfl (lv_at hl 0 rfl) ?_
          obtain ⟨t25, hw⟩ := hw
          refine mx_get (ci := 7) (C := "NetJoins$Wire") (T := F_Wire) (N := 7) hx hb hW hown hK.1 hR (a := v0) rfl t25 rfl i_Wire 5 1 (by decide) rfl kw_656 (fun _ h9 => h9) d_Wire_goesThrough_77 ?_
          refine va_mmax_long hx hb (by rw [hml]; exact hl.1.symm) hown (hW _ kw_271) (hW _ kw_272) (hW _ kw_18) (hW _ kw_273) (Nat.le_of_ble_eq_true rfl) (Nat.le_of_ble_eq_true rfl) (Nat.le_of_ble_eq_true rfl) (Nat.le_of_ble_eq_true rfl) d_Wire_goesThrough_80 ?_
          refine W.lcmp hx hb d_Wire_goesThrough_83 ?_
          refine lv_if_gt (tgt := 133) hx hb d_Wire_goesThrough_84 (by decide) (fun c26 => ?_) (fun c26 => ?_)
          · have hw := hw.1 c26
            refine lv_iconst (v := 0) hx hb d_Wire_goesThrough_133 (by decide) ?_
            exact mx_zret hx hb hr hlocks hR (Or.inl rfl) hw d_Wire_goesThrough_134
          · have hw := hw.2 c26
            refine mx_aload_n (r := some v0) hx hb d_Wire_goesThrough_87 rfl (lv_at hl 0 rfl) ?_
            obtain ⟨t27, hw⟩ := hw
            refine mx_get (ci := 7) (C := "NetJoins$Wire") (T := F_Wire) (N := 7) hx hb hW hown hK.1 hR (a := v0) rfl t27 rfl i_Wire 4 1 (by decide) rfl kw_655 (fun _ h9 => h9) d_Wire_goesThrough_88 ?_
            refine mx_aload_n (r := some v0) hx hb d_Wire_goesThrough_91 rfl (lv_at hl 0 rfl) ?_
            obtain ⟨t28, hw⟩ := hw
            refine mx_get (ci := 7) (C := "NetJoins$Wire") (T := F_Wire) (N := 7) hx hb hW hown hK.1 hR (a := v0) rfl t28 rfl i_Wire 2 1 (by decide) rfl kw_653 (fun _ h9 => h9) d_Wire_goesThrough_92 ?_
            refine lv_lsub hx hb d_Wire_goesThrough_95 ?_
            refine mx_aload_n (r := x1) hx hb d_Wire_goesThrough_96 rfl (lv_at hl 1 rfl) ?_
            obtain ⟨a29, ea29, t30, hw⟩ := hw
            refine mx_get (ci := 6) (C := "NetJoins$Spot") (T := F_Spot) (N := 6) hx hb hW hown hK.1 hR (a := a29) ea29 t30 rfl i_Spot 2 1 (by decide) rfl kw_705 (fun _ h9 => h9) d_Wire_goesThrough_97 ?_
            refine mx_aload_n (r := some v0) hx hb d_Wire_goesThrough_100 rfl (lv_at hl 0 rfl) ?_
            obtain ⟨t31, hw⟩ := hw
            refine mx_get (ci := 7) (C := "NetJoins$Wire") (T := F_Wire) (N := 7) hx hb hW hown hK.1 hR (a := v0) rfl t31 rfl i_Wire 3 1 (by decide) rfl kw_654 (fun _ h9 => h9) d_Wire_goesThrough_101 ?_
            refine lv_lsub hx hb d_Wire_goesThrough_104 ?_
            refine lv_lmul hx hb d_Wire_goesThrough_105 ?_
            refine mx_aload_n (r := some v0) hx hb d_Wire_goesThrough_106 rfl (lv_at hl 0 rfl) ?_
            obtain ⟨t32, hw⟩ := hw
            refine mx_get (ci := 7) (C := "NetJoins$Wire") (T := F_Wire) (N := 7) hx hb hW hown hK.1 hR (a := v0) rfl t32 rfl i_Wire 5 1 (by decide) rfl kw_656 (fun _ h9 => h9) d_Wire_goesThrough_107 ?_
            refine mx_aload_n (r := some v0) hx hb d_Wire_goesThrough_110 rfl (lv_at hl 0 rfl) ?_
            obtain ⟨t33, hw⟩ := hw
            refine mx_get (ci := 7) (C := "NetJoins$Wire") (T := F_Wire) (N := 7) hx hb hW hown hK.1 hR (a := v0) rfl t33 rfl i_Wire 3 1 (by decide) rfl kw_654 (fun _ h9 => h9) d_Wire_goesThrough_111 ?_
            refine lv_lsub hx hb d_Wire_goesThrough_114 ?_
            refine mx_aload_n (r := x1) hx hb d_Wire_goesThrough_115 rfl (lv_at hl 1 rfl) ?_
            obtain ⟨a34, ea34, t35, hw⟩ := hw
            refine mx_get (ci := 6) (C := "NetJoins$Spot") (T := F_Spot) (N := 6) hx hb hW hown hK.1 hR (a := a34) ea34 t35 rfl i_Spot 1 1 (by decide) rfl kw_702 (fun _ h9 => h9) d_Wire_goesThrough_116 ?_
            refine mx_aload_n (r := some v0) hx hb d_Wire_goesThrough_119 rfl (lv_at hl 0 rfl) ?_
            obtain ⟨t36, hw⟩ := hw
            refine mx_get (ci := 7) (C := "NetJoins$Wire") (T := F_Wire) (N := 7) hx hb hW hown hK.1 hR (a := v0) rfl t36 rfl i_Wire 2 1 (by decide) rfl kw_653 (fun _ h9 => h9) d_Wire_goesThrough_120 ?_
            refine lv_lsub hx hb d_Wire_goesThrough_123 ?_
            refine lv_lmul hx hb d_Wire_goesThrough_124 ?_
            refine W.lcmp hx hb d_Wire_goesThrough_125 ?_
            refine lv_if_ne (tgt := 133) hx hb d_Wire_goesThrough_126 (by decide) (fun c37 => ?_) (fun c37 => ?_)
            · have hw := hw.1 c37
              refine lv_iconst (v := 0) hx hb d_Wire_goesThrough_133 (by decide) ?_
              exact mx_zret hx hb hr hlocks hR (Or.inl rfl) hw d_Wire_goesThrough_134
            · have hw := hw.2 c37
              refine lv_iconst (v := 1) hx hb d_Wire_goesThrough_129 (by decide) ?_
              refine lv_goto (tgt := 134) hx hb d_Wire_goesThrough_130 (by decide) ?_
              exact mx_zret hx hb hr hlocks hR (Or.inr rfl) hw d_Wire_goesThrough_134
set_option maxHeartbeats 4000000 in
set_option maxRecDepth 100000 in
theorem mn_Wire_hasEnd_18 {D : va_G} {cs : CS} {Z : Nat → Nat} {h0 : HS} {p : Program} {l : Launch} {e : Env} {s : State} {m : MethodId} {args : Array Value} {below : List Frame} {meth : Method} {c : Code} {v0 : Nat} (C : mC D cs Z h0 y_Wire_hasEnd c_Wire_hasEnd 5 (some .boolean) p s m args meth c) (post : Int32 → HS → Prop) : ∀ (x1 : Int64) (x3 : Int64) (h : HS) (H : Heap) (locs : List Loc) (ls : Array Slot), wj_Wire_hasEnd_18 Z post v0 x1 x3 h → lv_has ls 5 [(0, va_rf (some v0)), (1, .long x1), (3, .long x3)] → mR D cs (fA h0 s.heap.size) h s.heap H locs → W p l e ({ frames := 2, cells := 0, slots := 0, locals := 100 } : Room) s m args below meth c H locs 0 0 (MQ below (va_Qi post (mB D cs h0 s.heap.size) (fA h0 s.heap.size)) args s 0 0 (fA h0 s.heap.size)) (F0 m 18 ls []) := by
  obtain ⟨hx, hb, hr, hml, hown, hW, hlocks, hnm, hK, hZ⟩ := id C
  have hown : s.vm.findClass "NetJoins$Wire" = some m.cls := hown
  have hA : ∀ q, s.heap.size ≤ q → fA h0 s.heap.size q := fun _ h => Or.inr h
  intro x1 x3 h H locs ls hw hl hR
  unfold wj_Wire_hasEnd_18 at hw
  refine mx_aload_n (r := some v0) hx hb d_Wire_hasEnd_18 rfl (lv_at hl 0 rfl) ?_
  obtain ⟨t1, hw⟩ := hw
  refine mx_get (ci := 7) (C := "NetJoins$Wire") (T := F_Wire) (N := 7) hx hb hW hown hK.1 hR (a := v0) rfl t1 rfl i_Wire 4 1 (by decide) rfl kw_655 (fun _ h9 => h9) d_Wire_hasEnd_19 ?_
  refine lv_lload_n hx hb d_Wire_hasEnd_22 rfl (lv_at hl 1 rfl) ?_
  refine W.lcmp hx hb d_Wire_hasEnd_23 ?_
  refine lv_if_ne (tgt := 40) hx hb d_Wire_hasEnd_24 (by decide) (fun c2 => ?_) (fun c2 => ?_)
  · have hw := hw.1 c2
    refine lv_iconst (v := 0) hx hb d_Wire_hasEnd_40 (by decide) ?_
    exact mx_zret hx hb hr hlocks hR (Or.inl rfl) hw d_Wire_hasEnd_41
  · have hw := hw.2 c2
    refine mx_aload_n (r := some v0) hx hb d_Wire_hasEnd_27 rfl (lv_at hl 0 rfl) ?_
    obtain ⟨t3, hw⟩ := hw
    refine mx_get (ci := 7) (C := "NetJoins$Wire") (T := F_Wire) (N := 7) hx hb hW hown hK.1 hR (a := v0) rfl t3 rfl i_Wire 5 1 (by decide) rfl kw_656 (fun _ h9 => h9) d_Wire_hasEnd_28 ?_
    refine lv_lload_n hx hb d_Wire_hasEnd_31 rfl (lv_at hl 2 rfl) ?_
    refine W.lcmp hx hb d_Wire_hasEnd_32 ?_
    refine lv_if_ne (tgt := 40) hx hb d_Wire_hasEnd_33 (by decide) (fun c4 => ?_) (fun c4 => ?_)
    · have hw := hw.1 c4
      refine lv_iconst (v := 0) hx hb d_Wire_hasEnd_40 (by decide) ?_
      exact mx_zret hx hb hr hlocks hR (Or.inl rfl) hw d_Wire_hasEnd_41
    · have hw := hw.2 c4
      refine lv_iconst (v := 1) hx hb d_Wire_hasEnd_36 (by decide) ?_
      refine lv_goto (tgt := 41) hx hb d_Wire_hasEnd_37 (by decide) ?_
      exact mx_zret hx hb hr hlocks hR (Or.inr rfl) hw d_Wire_hasEnd_41
set_option maxHeartbeats 4000000 in
set_option maxRecDepth 100000 in
theorem mt_Wire_hasEnd (l : Launch) (D : va_G) (cs : CS) (Z : Nat → Nat) (sz : Nat) {post : Int32 → HS → Prop} {h : HS} {v0 : Nat} {x1 : Int64} {x3 : Int64} (hw : wp_Wire_hasEnd Z post h v0 x1 x3) : Met l y_Wire_hasEnd (Cond.code y_Wire_hasEnd c_Wire_hasEnd 5 (some .boolean) :: WA) ({ frames := 2, cells := 0, slots := 0, locals := 100 } : Room) (mPc D cs Z h sz [va_rf (some v0), .long x1, .long x3]) (va_Qi post (mB D cs h sz) (fA h sz)) 0 0 (fA h sz) := by
  refine mx_met (fun sz => va_Qi post (mB D cs h sz) (fA h sz)) (by decide) (by simp [lg_sl, mx_rf_cat, cat_i, cat_l]) ?_
  intro p e s m args below meth c C hR ls hl
  have hl : lv_has ls 5 [(0, va_rf (some v0)), (1, .long x1), (3, .long x3)] := hl
  obtain ⟨hx, hb, hr, hml, hown, hW, hlocks, hnm, hK, hZ⟩ := id C
  have hown : s.vm.findClass "NetJoins$Wire" = some m.cls := hown
  have hA : ∀ q, s.heap.size ≤ q → fA h s.heap.size q := fun _ h => Or.inr h
  unfold wp_Wire_hasEnd at hw
  refine mx_aload_n (r := some v0) hx hb d_Wire_hasEnd_0 rfl (lv_at hl 0 rfl) ?_
  obtain ⟨t1, hw⟩ := hw
  refine mx_get (ci := 7) (C := "NetJoins$Wire") (T := F_Wire) (N := 7) hx hb hW hown hK.1 hR (a := v0) rfl t1 rfl i_Wire 2 1 (by decide) rfl kw_653 (fun _ h9 => h9) d_Wire_hasEnd_1 ?_
  refine lv_lload_n hx hb d_Wire_hasEnd_4 rfl (lv_at hl 1 rfl) ?_
  refine W.lcmp hx hb d_Wire_hasEnd_5 ?_
  refine lv_if_ne (tgt := 18) hx hb d_Wire_hasEnd_6 (by decide) (fun c2 => ?_) (fun c2 => ?_)
  · have hw := hw.1 c2
    exact mn_Wire_hasEnd_18 C post x1 x3 _ _ _ _ hw (lv_sub hl [0, 1, 2] rfl) hR
  · have hw := hw.2 c2
    refine mx_aload_n (r := some v0) hx hb d_Wire_hasEnd_9 rfl (lv_at hl 0 rfl) ?_
    obtain ⟨t3, hw⟩ := hw
    refine mx_get (ci := 7) (C := "NetJoins$Wire") (T := F_Wire) (N := 7) hx hb hW hown hK.1 hR (a := v0) rfl t3 rfl i_Wire 3 1 (by decide) rfl kw_654 (fun _ h9 => h9) d_Wire_hasEnd_10 ?_
    refine lv_lload_n hx hb d_Wire_hasEnd_13 rfl (lv_at hl 2 rfl) ?_
    refine W.lcmp hx hb d_Wire_hasEnd_14 ?_
    refine lv_if_eq (tgt := 36) hx hb d_Wire_hasEnd_15 (by decide) (fun c4 => ?_) (fun c4 => ?_)
    · have hw := hw.1 c4
      refine lv_iconst (v := 1) hx hb d_Wire_hasEnd_36 (by decide) ?_
      refine lv_goto (tgt := 41) hx hb d_Wire_hasEnd_37 (by decide) ?_
      exact mx_zret hx hb hr hlocks hR (Or.inr rfl) hw d_Wire_hasEnd_41
    · have hw := hw.2 c4
      exact mn_Wire_hasEnd_18 C post x1 x3 _ _ _ _ hw (lv_sub hl [0, 1, 2] rfl) hR
set_option maxHeartbeats 4000000 in
set_option maxRecDepth 100000 in
theorem mt_Wire_hasCommonEnd (l : Launch) (D : va_G) (cs : CS) (Z : Nat → Nat) (sz : Nat) {post : Int32 → HS → Prop} {h : HS} {v0 : Nat} {x1 : Option Nat} (hw : wp_Wire_hasCommonEnd Z post h v0 x1) : Met l y_Wire_hasCommonEnd (Cond.code y_Wire_hasCommonEnd c_Wire_hasCommonEnd 2 (some .boolean) :: WA) ({ frames := 3, cells := 0, slots := 0, locals := 124 } : Room) (mPc D cs Z h sz [va_rf (some v0), va_rf x1]) (va_Qi post (mB D cs h sz) (fA h sz)) 0 0 (fA h sz) := by
  refine mx_met (fun sz => va_Qi post (mB D cs h sz) (fA h sz)) (by decide) (by simp [lg_sl, mx_rf_cat, cat_i, cat_l]) ?_
  intro p e s m args below meth c C hR ls hl
  have hl : lv_has ls 2 [(0, va_rf (some v0)), (1, va_rf x1)] := by simpa [lv_args, mx_rf_cat, cat_i, cat_l] using hl
  obtain ⟨hx, hb, hr, hml, hown, hW, hlocks, hnm, hK, hZ⟩ := id C
  have hown : s.vm.findClass "NetJoins$Wire" = some m.cls := hown
  have hA : ∀ q, s.heap.size ≤ q → fA h s.heap.size q := fun _ h => Or.inr h
  unfold wp_Wire_hasCommonEnd at hw
  refine mx_aload_n (r := some v0) hx hb d_Wire_hasCommonEnd_0 rfl (lv_at hl 0 rfl) ?_
  refine mx_aload_n (r := x1) hx hb d_Wire_hasCommonEnd_1 rfl (lv_at hl 1 rfl) ?_
  obtain ⟨a1, ea1, t2, hw⟩ := hw
  refine mx_get (ci := 7) (C := "NetJoins$Wire") (T := F_Wire) (N := 7) hx hb hW hown hK.1 hR (a := a1) ea1 t2 rfl i_Wire 2 1 (by decide) rfl kw_653 (fun _ h9 => h9) d_Wire_hasCommonEnd_2 ?_
  refine mx_aload_n (r := x1) hx hb d_Wire_hasCommonEnd_5 rfl (lv_at hl 1 rfl) ?_
  obtain ⟨a3, ea3, t4, hw⟩ := hw
  refine mx_get (ci := 7) (C := "NetJoins$Wire") (T := F_Wire) (N := 7) hx hb hW hown hK.1 hR (a := a3) ea3 t4 rfl i_Wire 3 1 (by decide) rfl kw_654 (fun _ h9 => h9) d_Wire_hasCommonEnd_6 ?_
  obtain ⟨t7, hw⟩ := hw
  refine mx_calli (va_runV (b := v0) (As := [.long (gJ h 702 a1), .long (gJ h 703 a3)]) (rest := []) ⟨hx, hb, hml, hown, hW⟩ (mt_Wire_hasEnd l D cs Z _ hw) (mx_cwV hW ok_Wire_hasEnd kw_319 rfl rfl ⟨Nat.le_of_ble_eq_true rfl, Nat.le_of_ble_eq_true rfl⟩) (mx_preV hK hZ hA hR (ci := 7) rfl t7) rfl rfl hl.1 rfl (lv_room (Nat.le_of_ble_eq_true rfl)) d_Wire_hasCommonEnd_9 ⟨Nat.le_of_ble_eq_true rfl, Nat.le_of_ble_eq_true rfl⟩) hR hA (fun r5 h6 H locs hw hR => ?_)
  try dsimp only at hw
  refine lv_if_ne (tgt := 30) hx hb d_Wire_hasCommonEnd_12 (by decide) (fun c8 => ?_) (fun c8 => ?_)
  · have hw := hw.1 c8
    refine lv_iconst (v := 1) hx hb d_Wire_hasCommonEnd_30 (by decide) ?_
    refine lv_goto (tgt := 35) hx hb d_Wire_hasCommonEnd_31 (by decide) ?_
    exact mx_zret hx hb hr hlocks hR (Or.inr rfl) hw d_Wire_hasCommonEnd_35
  · have hw := hw.2 c8
    refine mx_aload_n (r := some v0) hx hb d_Wire_hasCommonEnd_15 rfl (lv_at hl 0 rfl) ?_
    refine mx_aload_n (r := x1) hx hb d_Wire_hasCommonEnd_16 rfl (lv_at hl 1 rfl) ?_
    obtain ⟨a9, ea9, t10, hw⟩ := hw
    refine mx_get (ci := 7) (C := "NetJoins$Wire") (T := F_Wire) (N := 7) hx hb hW hown hK.1 hR (a := a9) ea9 t10 rfl i_Wire 4 1 (by decide) rfl kw_655 (fun _ h9 => h9) d_Wire_hasCommonEnd_17 ?_
    refine mx_aload_n (r := x1) hx hb d_Wire_hasCommonEnd_20 rfl (lv_at hl 1 rfl) ?_
    obtain ⟨a11, ea11, t12, hw⟩ := hw
    refine mx_get (ci := 7) (C := "NetJoins$Wire") (T := F_Wire) (N := 7) hx hb hW hown hK.1 hR (a := a11) ea11 t12 rfl i_Wire 5 1 (by decide) rfl kw_656 (fun _ h9 => h9) d_Wire_hasCommonEnd_21 ?_
    obtain ⟨t15, hw⟩ := hw
    refine mx_calli (va_runV (b := v0) (As := [.long (gJ h6 704 a9), .long (gJ h6 705 a11)]) (rest := []) ⟨hx, hb, hml, hown, hW⟩ (mt_Wire_hasEnd l D cs Z _ hw) (mx_cwV hW ok_Wire_hasEnd kw_319 rfl rfl ⟨Nat.le_of_ble_eq_true rfl, Nat.le_of_ble_eq_true rfl⟩) (mx_preV hK hZ hA hR (ci := 7) rfl t15) rfl rfl hl.1 rfl (lv_room (Nat.le_of_ble_eq_true rfl)) d_Wire_hasCommonEnd_24 ⟨Nat.le_of_ble_eq_true rfl, Nat.le_of_ble_eq_true rfl⟩) hR hA (fun r13 h14 H locs hw hR => ?_)
    try dsimp only at hw
    refine lv_if_eq (tgt := 34) hx hb d_Wire_hasCommonEnd_27 (by decide) (fun c16 => ?_) (fun c16 => ?_)
    · have hw := hw.1 c16
      refine lv_iconst (v := 0) hx hb d_Wire_hasCommonEnd_34 (by decide) ?_
      exact mx_zret hx hb hr hlocks hR (Or.inl rfl) hw d_Wire_hasCommonEnd_35
    · have hw := hw.2 c16
      refine lv_iconst (v := 1) hx hb d_Wire_hasCommonEnd_30 (by decide) ?_
      refine lv_goto (tgt := 35) hx hb d_Wire_hasCommonEnd_31 (by decide) ?_
      exact mx_zret hx hb hr hlocks hR (Or.inr rfl) hw d_Wire_hasCommonEnd_35
set_option maxHeartbeats 4000000 in
set_option maxRecDepth 100000 in
theorem mt_Wire_init (l : Launch) (D : va_G) (cs : CS) (Z : Nat → Nat) (sz : Nat) {post : HS → Prop} {h : HS} {v0 : Nat} {x1 : Int32} {x2 : Int32} {x3 : Int64} {x5 : Int64} {x7 : Int64} {x9 : Int64} (hw : wp_Wire_init Z post h v0 x1 x2 x3 x5 x7 x9) : Met l y_Wire_init (Cond.code y_Wire_init c_Wire_init 11 none :: WA) ({ frames := 2, cells := 0, slots := 0, locals := 100 } : Room) (mPc D cs Z h sz [va_rf (some v0), .int x1, .int x2, .long x3, .long x5, .long x7, .long x9]) (va_Qv post (mB D cs h sz) (fA h sz)) 0 0 (fA h sz) := by
  refine mx_met (fun sz => va_Qv post (mB D cs h sz) (fA h sz)) (by decide) (by simp [lg_sl, mx_rf_cat, cat_i, cat_l]) ?_
  intro p e s m args below meth c C hR ls hl
  have hl : lv_has ls 11 [(0, va_rf (some v0)), (1, .int x1), (2, .int x2), (3, .long x3), (5, .long x5), (7, .long x7), (9, .long x9)] := hl
  obtain ⟨hx, hb, hr, hml, hown, hW, hlocks, hnm, hK, hZ⟩ := id C
  have hown : s.vm.findClass "NetJoins$Wire" = some m.cls := hown
  have hA : ∀ q, s.heap.size ≤ q → fA h s.heap.size q := fun _ h => Or.inr h
  unfold wp_Wire_init at hw
  refine mx_aload_n (r := some v0) hx hb d_Wire_init_0 rfl (lv_at hl 0 rfl) ?_
  refine W.objInit hx hb hown (hW _ kw_648) (hW _ kw_37) (hW _ kw_38) rfl (by rw [hml]; exact hl.1) rfl d_Wire_init_1 (Nat.le_of_ble_eq_true rfl) (Nat.le_of_ble_eq_true rfl) ?_
  refine W.eq (g2 := F0 m 4 ls []) rfl ?_
  refine mx_aload_n (r := some v0) hx hb d_Wire_init_4 rfl (lv_at hl 0 rfl) ?_
  refine lv_iload_n hx hb d_Wire_init_5 rfl (lv_at hl 1 rfl) ?_
  obtain ⟨t1, hw⟩ := hw
  refine mx_putF (ci := 7) (C := "NetJoins$Wire") (T := F_Wire) (N := 7) (v := .int x1) (h' := sI h 700 v0 x1) hx hb hW hown hK.1 hR (a := v0) rfl t1 rfl i_Wire t_Wire t_Wire_ok n_Wire 0 0 (by decide) rfl kw_649 (fun _ h9 => h9) rfl hnm rfl rfl rfl d_Wire_init_6 rfl (toE_sI (ci := 7) (k := 0) t1 rfl) (fun H locs hR => ?_)
  obtain ⟨h2, eh2⟩ : ∃ z, z = sI h 700 v0 x1 := ⟨_, rfl⟩
  rw [← eh2] at hR
  have hw := hw h2 eh2
  refine mx_aload_n (r := some v0) hx hb d_Wire_init_9 rfl (lv_at hl 0 rfl) ?_
  refine lv_iload_n hx hb d_Wire_init_10 rfl (lv_at hl 2 rfl) ?_
  obtain ⟨t3, hw⟩ := hw
  refine mx_putF (ci := 7) (C := "NetJoins$Wire") (T := F_Wire) (N := 7) (v := .int x2) (h' := sI h2 701 v0 x2) hx hb hW hown hK.1 hR (a := v0) rfl t3 rfl i_Wire t_Wire t_Wire_ok n_Wire 1 0 (by decide) rfl kw_651 (fun _ h9 => h9) rfl hnm rfl rfl rfl d_Wire_init_11 rfl (toE_sI (ci := 7) (k := 1) t3 rfl) (fun H locs hR => ?_)
  obtain ⟨h4, eh4⟩ : ∃ z, z = sI h2 701 v0 x2 := ⟨_, rfl⟩
  rw [← eh4] at hR
  have hw := hw h4 eh4
  refine mx_aload_n (r := some v0) hx hb d_Wire_init_14 rfl (lv_at hl 0 rfl) ?_
  refine lv_lload_n hx hb d_Wire_init_15 rfl (lv_at hl 3 rfl) ?_
  obtain ⟨t5, hw⟩ := hw
  refine mx_putF (ci := 7) (C := "NetJoins$Wire") (T := F_Wire) (N := 7) (v := .long x3) (h' := sJ h4 702 v0 x3) hx hb hW hown hK.1 hR (a := v0) rfl t5 rfl i_Wire t_Wire t_Wire_ok n_Wire 2 1 (by decide) rfl kw_653 (fun _ h9 => h9) rfl hnm rfl rfl rfl d_Wire_init_16 rfl (toE_sJ (ci := 7) (k := 2) t5 rfl) (fun H locs hR => ?_)
  obtain ⟨h6, eh6⟩ : ∃ z, z = sJ h4 702 v0 x3 := ⟨_, rfl⟩
  rw [← eh6] at hR
  have hw := hw h6 eh6
  refine mx_aload_n (r := some v0) hx hb d_Wire_init_19 rfl (lv_at hl 0 rfl) ?_
  refine lv_lload hx hb d_Wire_init_20 (lv_at hl 4 rfl) ?_
  obtain ⟨t7, hw⟩ := hw
  refine mx_putF (ci := 7) (C := "NetJoins$Wire") (T := F_Wire) (N := 7) (v := .long x5) (h' := sJ h6 703 v0 x5) hx hb hW hown hK.1 hR (a := v0) rfl t7 rfl i_Wire t_Wire t_Wire_ok n_Wire 3 1 (by decide) rfl kw_654 (fun _ h9 => h9) rfl hnm rfl rfl rfl d_Wire_init_22 rfl (toE_sJ (ci := 7) (k := 3) t7 rfl) (fun H locs hR => ?_)
  obtain ⟨h8, eh8⟩ : ∃ z, z = sJ h6 703 v0 x5 := ⟨_, rfl⟩
  rw [← eh8] at hR
  have hw := hw h8 eh8
  refine mx_aload_n (r := some v0) hx hb d_Wire_init_25 rfl (lv_at hl 0 rfl) ?_
  refine lv_lload hx hb d_Wire_init_26 (lv_at hl 5 rfl) ?_
  obtain ⟨t9, hw⟩ := hw
  refine mx_putF (ci := 7) (C := "NetJoins$Wire") (T := F_Wire) (N := 7) (v := .long x7) (h' := sJ h8 704 v0 x7) hx hb hW hown hK.1 hR (a := v0) rfl t9 rfl i_Wire t_Wire t_Wire_ok n_Wire 4 1 (by decide) rfl kw_655 (fun _ h9 => h9) rfl hnm rfl rfl rfl d_Wire_init_28 rfl (toE_sJ (ci := 7) (k := 4) t9 rfl) (fun H locs hR => ?_)
  obtain ⟨h10, eh10⟩ : ∃ z, z = sJ h8 704 v0 x7 := ⟨_, rfl⟩
  rw [← eh10] at hR
  have hw := hw h10 eh10
  refine mx_aload_n (r := some v0) hx hb d_Wire_init_31 rfl (lv_at hl 0 rfl) ?_
  refine lv_lload hx hb d_Wire_init_32 (lv_at hl 6 rfl) ?_
  obtain ⟨t11, hw⟩ := hw
  refine mx_putF (ci := 7) (C := "NetJoins$Wire") (T := F_Wire) (N := 7) (v := .long x9) (h' := sJ h10 705 v0 x9) hx hb hW hown hK.1 hR (a := v0) rfl t11 rfl i_Wire t_Wire t_Wire_ok n_Wire 5 1 (by decide) rfl kw_656 (fun _ h9 => h9) rfl hnm rfl rfl rfl d_Wire_init_34 rfl (toE_sJ (ci := 7) (k := 5) t11 rfl) (fun H locs hR => ?_)
  obtain ⟨h12, eh12⟩ : ∃ z, z = sJ h10 705 v0 x9 := ⟨_, rfl⟩
  rw [← eh12] at hR
  have hw := hw h12 eh12
  exact mx_vret hx hb hr hlocks hR hw d_Wire_init_37
