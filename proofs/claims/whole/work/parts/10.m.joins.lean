set_option maxHeartbeats 4000000 in
set_option maxRecDepth 100000 in
theorem mt_Joins_node (l : Launch) (D : va_G) (cs : CS) (Z : Nat → Nat) (sz : Nat) {post : Int32 → HS → Prop} {h : HS} {x0 : Int32} {x1 : Int32} (hw : wp_Joins_node post h x0 x1) : Met l y_Joins_node (Cond.code y_Joins_node c_Joins_node 2 (some .int) :: WA) ({ frames := 2, cells := 0, slots := 0, locals := 100 } : Room) (mPc D cs Z h sz [.int x0, .int x1]) (va_Qi post (mB D cs h sz) (fA h sz)) 0 0 (fA h sz) := by
  refine mx_met (fun sz => va_Qi post (mB D cs h sz) (fA h sz)) (by decide) (by simp [lg_sl, mx_rf_cat, cat_i, cat_l]) ?_
  intro p e s m args below meth c C hR ls hl
  have hl : lv_has ls 2 [(0, .int x0), (1, .int x1)] := hl
  obtain ⟨hx, hb, hr, hml, hown, hW, hlocks, hnm, hK, hZ⟩ := id C
  have hown : s.vm.findClass "NetJoins$Joins" = some m.cls := hown
  have hA : ∀ q, s.heap.size ≤ q → fA h s.heap.size q := fun _ h => Or.inr h
  unfold wp_Joins_node at hw
  refine lv_iload_n hx hb d_Joins_node_0 rfl (lv_at hl 0 rfl) ?_
  refine lv_bipush (v := 11) hx hb d_Joins_node_1 (by decide) ?_
  refine lv_ishl hx hb d_Joins_node_3 ?_
  refine lv_iload_n hx hb d_Joins_node_4 rfl (lv_at hl 1 rfl) ?_
  refine lv_iadd hx hb d_Joins_node_5 ?_
  exact mx_iret hx hb hr hlocks hR hw d_Joins_node_6
set_option maxHeartbeats 4000000 in
set_option maxRecDepth 100000 in
theorem mn_Joins_scatterRow_9 {D : va_G} {cs : CS} {Z : Nat → Nat} {h0 : HS} {p : Program} {l : Launch} {e : Env} {s : State} {m : MethodId} {args : Array Value} {below : List Frame} {meth : Method} {c : Code} {v0 : Nat} (C : mC D cs Z h0 y_Joins_scatterRow c_Joins_scatterRow 4 none p s m args meth c) (post : HS → Prop) : ∀ (n : Nat) (x1 : Int32) (x2 : Option Nat) (x3 : Int32) (h : HS) (H : Heap) (locs : List Loc) (ls : Array Slot), lpF (wb_Joins_scatterRow_9 post v0) n (x1, x2, x3, h) → lv_has ls 4 [(1, .int x1), (2, va_rf x2), (3, .int x3)] → mR D cs (fA h0 s.heap.size) h s.heap H locs → W p l e ({ frames := 3, cells := 0, slots := 0, locals := 121 } : Room) s m args below meth c H locs 0 0 (MQ below (va_Qv post (mB D cs h0 s.heap.size) (fA h0 s.heap.size)) args s 0 0 (fA h0 s.heap.size)) (F0 m 9 ls []) := by
  obtain ⟨hx, hb, hr, hml, hown, hW, hlocks, hnm, hK, hZ⟩ := id C
  have hown : s.vm.findClass "NetJoins$Joins" = some m.cls := hown
  have hA : ∀ q, s.heap.size ≤ q → fA h0 s.heap.size q := fun _ h => Or.inr h
  intro n
  induction n with
  | zero => intro x1 x2 x3 h H locs ls hw; exact hw.elim
  | succ n ih =>
    intro x1 x2 x3 h H locs ls hw hl hR
    have hw : wb_Joins_scatterRow_9 post v0 (lpF (wb_Joins_scatterRow_9 post v0) n) (x1, x2, x3, h) := hw
    unfold wb_Joins_scatterRow_9 at hw
    dsimp only at hw
    refine lv_iload_n hx hb d_Joins_scatterRow_9 rfl (lv_at hl 2 rfl) ?_
    refine mx_aload_n (r := x2) hx hb d_Joins_scatterRow_10 rfl (lv_at hl 1 rfl) ?_
    obtain ⟨a1, ea1, t2, t2i, hw⟩ := hw
    refine mx_alen hx hb hK.1 hR (a := a1) ea1 t2 t2i d_Joins_scatterRow_11 ?_
    refine lv_icmp_ge (tgt := 29) hx hb d_Joins_scatterRow_12 (by decide) (fun c3 => ?_) (fun c3 => ?_)
    · have hw := hw.1 c3
      exact mx_vret hx hb hr hlocks hR hw d_Joins_scatterRow_29
    · have hw := hw.2 c3
      refine mx_aload_n (r := x2) hx hb d_Joins_scatterRow_15 rfl (lv_at hl 1 rfl) ?_
      refine lv_iload_n hx hb d_Joins_scatterRow_16 rfl (lv_at hl 2 rfl) ?_
      refine lv_iload_n hx hb d_Joins_scatterRow_17 rfl (lv_at hl 0 rfl) ?_
      refine lv_iload_n hx hb d_Joins_scatterRow_18 rfl (lv_at hl 2 rfl) ?_
      refine mx_calli (va_runS (As := [.int x1, .int x3]) (rest := [.int x3, va_rf x2]) ⟨hx, hb, hml, hown, hW⟩ (mt_Joins_node l D cs Z _ hw) (mx_cwS hW ok_Joins_node kw_77 rfl rfl ⟨Nat.le_of_ble_eq_true rfl, Nat.le_of_ble_eq_true rfl⟩) (mx_preS hK hZ hA hR) rfl rfl hl.1 rfl (lv_room (by simp [mx_rf_cat, cat_i, cat_l])) d_Joins_scatterRow_19 ⟨Nat.le_of_ble_eq_true rfl, Nat.le_of_ble_eq_true rfl⟩) hR hA (fun r4 h5 H locs hw hR => ?_)
      try dsimp only at hw
      obtain ⟨a6, ea6, t7, t7i, hw⟩ := hw
      refine mx_iast hx hb hK.1 hR (a := a6) ea6 t7 t7i d_Joins_scatterRow_22 (fun H locs hR => ?_)
      obtain ⟨h8, eh8⟩ : ∃ z, z = sA h5 a6 x3.toNatClampNeg r4 := ⟨_, rfl⟩
      rw [← eh8] at hR
      have hw := hw h8 eh8
      obtain ⟨y9, ey9⟩ : ∃ y : Int32, y = x3 + (1 : Int32) := ⟨_, rfl⟩
      have hw := hw y9 ey9
      refine lv_iinc (v := y9) (lv' := [(3, .int y9), (1, .int x1), (2, va_rf x2)]) hx hb d_Joins_scatterRow_23 hl (k := 2) rfl (by rw [ey9]; rfl) (by decide) (by simp [mx_rf_cat]) (fun ls hl => ?_)
      refine lv_goto (tgt := 9) hx hb d_Joins_scatterRow_26 (by decide) ?_
      exact ih x1 x2 y9 _ _ _ _ hw (lv_sub hl [1, 2, 0] rfl) hR
set_option maxHeartbeats 4000000 in
set_option maxRecDepth 100000 in
theorem mt_Joins_scatterRow (l : Launch) (D : va_G) (cs : CS) (Z : Nat → Nat) (sz : Nat) {post : HS → Prop} {h : HS} {v0 : Nat} {x1 : Int32} (hw : wp_Joins_scatterRow post h v0 x1) : Met l y_Joins_scatterRow (Cond.code y_Joins_scatterRow c_Joins_scatterRow 4 none :: WA) ({ frames := 3, cells := 0, slots := 0, locals := 121 } : Room) (mPc D cs Z h sz [va_rf (some v0), .int x1]) (va_Qv post (mB D cs h sz) (fA h sz)) 0 0 (fA h sz) := by
  refine mx_met (fun sz => va_Qv post (mB D cs h sz) (fA h sz)) (by decide) (by simp [lg_sl, mx_rf_cat, cat_i, cat_l]) ?_
  intro p e s m args below meth c C hR ls hl
  have hl : lv_has ls 4 [(0, va_rf (some v0)), (1, .int x1)] := hl
  obtain ⟨hx, hb, hr, hml, hown, hW, hlocks, hnm, hK, hZ⟩ := id C
  have hown : s.vm.findClass "NetJoins$Joins" = some m.cls := hown
  have hA : ∀ q, s.heap.size ≤ q → fA h s.heap.size q := fun _ h => Or.inr h
  unfold wp_Joins_scatterRow at hw
  refine mx_aload_n (r := some v0) hx hb d_Joins_scatterRow_0 rfl (lv_at hl 0 rfl) ?_
  obtain ⟨t1, hw⟩ := hw
  refine mx_get (ci := 2) (C := "NetJoins$Joins") (T := F_Joins) (N := 1) hx hb hW hown hK.1 hR (a := v0) rfl t1 rfl i_Joins 0 2 (by decide) rfl kw_80 (fun _ h9 => h9) d_Joins_scatterRow_1 ?_
  refine lv_iload_n hx hb d_Joins_scatterRow_4 rfl (lv_at hl 1 rfl) ?_
  obtain ⟨a2, ea2, t3, t3i, hw⟩ := hw
  refine mx_rald hx hb hK.1 hR (a := a2) ea2 t3 t3i d_Joins_scatterRow_5 ?_
  refine mx_topr (fun y4 ey4 => ?_)
  have hw := hw y4 ey4
  refine mx_astore_n (i := 2) (r := y4) (lv' := [(2, va_rf y4), (0, va_rf (some v0)), (1, .int x1)]) hx hb d_Joins_scatterRow_6 rfl hl (by decide) rfl (fun ls hl => ?_)
  refine lv_iconst (v := 0) hx hb d_Joins_scatterRow_7 (by decide) ?_
  refine lv_istore_n (i := 3) (lv' := [(3, .int (0 : Int32)), (2, va_rf y4), (0, va_rf (some v0)), (1, .int x1)]) hx hb d_Joins_scatterRow_8 rfl hl (by decide) (by simp [mx_rf_cat]) (fun ls hl => ?_)
  obtain ⟨n9, hw⟩ := hw
  exact mn_Joins_scatterRow_9 C post n9 x1 y4 (0 : Int32) _ _ _ _ hw (lv_sub hl [3, 1, 0] rfl) hR
set_option maxHeartbeats 4000000 in
set_option maxRecDepth 100000 in
theorem mt_Joins_has (l : Launch) (D : va_G) (cs : CS) (Z : Nat → Nat) (sz : Nat) {post : Int32 → HS → Prop} {h : HS} {v0 : Nat} {x1 : Int32} (hw : wp_Joins_has post h v0 x1) : Met l y_Joins_has (Cond.code y_Joins_has c_Joins_has 3 (some .boolean) :: WA) ({ frames := 2, cells := 0, slots := 0, locals := 100 } : Room) (mPc D cs Z h sz [va_rf (some v0), .int x1]) (va_Qi post (mB D cs h sz) (fA h sz)) 0 0 (fA h sz) := by
  refine mx_met (fun sz => va_Qi post (mB D cs h sz) (fA h sz)) (by decide) (by simp [lg_sl, mx_rf_cat, cat_i, cat_l]) ?_
  intro p e s m args below meth c C hR ls hl
  have hl : lv_has ls 3 [(0, va_rf (some v0)), (1, .int x1)] := hl
  obtain ⟨hx, hb, hr, hml, hown, hW, hlocks, hnm, hK, hZ⟩ := id C
  have hown : s.vm.findClass "NetJoins$Joins" = some m.cls := hown
  have hA : ∀ q, s.heap.size ≤ q → fA h s.heap.size q := fun _ h => Or.inr h
  unfold wp_Joins_has at hw
  refine lv_iload_n hx hb d_Joins_has_0 rfl (lv_at hl 1 rfl) ?_
  refine lv_bipush (v := 11) hx hb d_Joins_has_1 (by decide) ?_
  refine lv_ishr hx hb d_Joins_has_3 ?_
  refine lv_topi (fun y1 ey1 => ?_)
  have hw := hw y1 ey1
  refine lv_istore_n (i := 2) (lv' := [(2, .int y1), (0, va_rf (some v0)), (1, .int x1)]) hx hb d_Joins_has_4 rfl hl (by decide) rfl (fun ls hl => ?_)
  refine lv_iload_n hx hb d_Joins_has_5 rfl (lv_at hl 0 rfl) ?_
  refine lv_if_lt (tgt := 37) hx hb d_Joins_has_6 (by decide) (fun c2 => ?_) (fun c2 => ?_)
  · have hw := hw.1 c2
    refine lv_iconst (v := 0) hx hb d_Joins_has_37 (by decide) ?_
    exact mx_zret hx hb hr hlocks hR (Or.inl rfl) hw d_Joins_has_38
  · have hw := hw.2 c2
    refine lv_iload_n hx hb d_Joins_has_9 rfl (lv_at hl 0 rfl) ?_
    refine mx_aload_n (r := some v0) hx hb d_Joins_has_10 rfl (lv_at hl 1 rfl) ?_
    obtain ⟨t3, hw⟩ := hw
    refine mx_get (ci := 2) (C := "NetJoins$Joins") (T := F_Joins) (N := 1) hx hb hW hown hK.1 hR (a := v0) rfl t3 rfl i_Joins 0 2 (by decide) rfl kw_80 (fun _ h9 => h9) d_Joins_has_11 ?_
    obtain ⟨a4, ea4, t5, t5i, hw⟩ := hw
    refine mx_alen hx hb hK.1 hR (a := a4) ea4 t5 t5i d_Joins_has_14 ?_
    refine lv_icmp_ge (tgt := 37) hx hb d_Joins_has_15 (by decide) (fun c6 => ?_) (fun c6 => ?_)
    · have hw := hw.1 c6
      refine lv_iconst (v := 0) hx hb d_Joins_has_37 (by decide) ?_
      exact mx_zret hx hb hr hlocks hR (Or.inl rfl) hw d_Joins_has_38
    · have hw := hw.2 c6
      refine lv_iload_n hx hb d_Joins_has_18 rfl (lv_at hl 2 rfl) ?_
      refine lv_sipush (v := 2047) hx hb d_Joins_has_19 (by decide) ?_
      refine lv_iand hx hb d_Joins_has_22 ?_
      refine mx_aload_n (r := some v0) hx hb d_Joins_has_23 rfl (lv_at hl 1 rfl) ?_
      obtain ⟨t7, hw⟩ := hw
      refine mx_get (ci := 2) (C := "NetJoins$Joins") (T := F_Joins) (N := 1) hx hb hW hown hK.1 hR (a := v0) rfl t7 rfl i_Joins 0 2 (by decide) rfl kw_80 (fun _ h9 => h9) d_Joins_has_24 ?_
      refine lv_iload_n hx hb d_Joins_has_27 rfl (lv_at hl 0 rfl) ?_
      obtain ⟨a8, ea8, t9, t9i, hw⟩ := hw
      refine mx_rald hx hb hK.1 hR (a := a8) ea8 t9 t9i d_Joins_has_28 ?_
      obtain ⟨a10, ea10, t11, t11i, hw⟩ := hw
      refine mx_alen hx hb hK.1 hR (a := a10) ea10 t11 t11i d_Joins_has_29 ?_
      refine lv_icmp_ge (tgt := 37) hx hb d_Joins_has_30 (by decide) (fun c12 => ?_) (fun c12 => ?_)
      · have hw := hw.1 c12
        refine lv_iconst (v := 0) hx hb d_Joins_has_37 (by decide) ?_
        exact mx_zret hx hb hr hlocks hR (Or.inl rfl) hw d_Joins_has_38
      · have hw := hw.2 c12
        refine lv_iconst (v := 1) hx hb d_Joins_has_33 (by decide) ?_
        refine lv_goto (tgt := 38) hx hb d_Joins_has_34 (by decide) ?_
        exact mx_zret hx hb hr hlocks hR (Or.inr rfl) hw d_Joins_has_38
set_option maxHeartbeats 4000000 in
set_option maxRecDepth 100000 in
theorem mn_Joins_climb_4 {D : va_G} {cs : CS} {Z : Nat → Nat} {h0 : HS} {p : Program} {l : Launch} {e : Env} {s : State} {m : MethodId} {args : Array Value} {below : List Frame} {meth : Method} {c : Code} {v0 : Nat} (C : mC D cs Z h0 y_Joins_climb c_Joins_climb 6 (some .int) p s m args meth c) (post : Int32 → HS → Prop) : ∀ (n : Nat) (x2 : Int32) (x3 : Int32) (h : HS) (H : Heap) (locs : List Loc) (ls : Array Slot), lpF (wb_Joins_climb_4 post v0) n (x2, x3, h) → lv_has ls 6 [(0, va_rf (some v0)), (2, .int x2), (3, .int x3)] → mR D cs (fA h0 s.heap.size) h s.heap H locs → W p l e ({ frames := 2, cells := 0, slots := 0, locals := 100 } : Room) s m args below meth c H locs 0 0 (MQ below (va_Qi post (mB D cs h0 s.heap.size) (fA h0 s.heap.size)) args s 0 0 (fA h0 s.heap.size)) (F0 m 4 ls []) := by
  obtain ⟨hx, hb, hr, hml, hown, hW, hlocks, hnm, hK, hZ⟩ := id C
  have hown : s.vm.findClass "NetJoins$Joins" = some m.cls := hown
  have hA : ∀ q, s.heap.size ≤ q → fA h0 s.heap.size q := fun _ h => Or.inr h
  intro n
  induction n with
  | zero => intro x2 x3 h H locs ls hw; exact hw.elim
  | succ n ih =>
    intro x2 x3 h H locs ls hw hl hR
    have hw : wb_Joins_climb_4 post v0 (lpF (wb_Joins_climb_4 post v0) n) (x2, x3, h) := hw
    unfold wb_Joins_climb_4 at hw
    dsimp only at hw
    refine lv_iload_n hx hb d_Joins_climb_4 rfl (lv_at hl 2 rfl) ?_
    refine lv_ldc hx hb hown (hW _ kw_235) d_Joins_climb_5 ?_
    refine lv_icmp_ge (tgt := 81) hx hb d_Joins_climb_7 (by decide) (fun c1 => ?_) (fun c1 => ?_)
    · have hw := hw.1 c1
      refine lv_iload_n hx hb d_Joins_climb_81 rfl (lv_at hl 1 rfl) ?_
      exact mx_iret hx hb hr hlocks hR hw d_Joins_climb_82
    · have hw := hw.2 c1
      refine mx_aload_n (r := some v0) hx hb d_Joins_climb_10 rfl (lv_at hl 0 rfl) ?_
      obtain ⟨t2, hw⟩ := hw
      refine mx_get (ci := 2) (C := "NetJoins$Joins") (T := F_Joins) (N := 1) hx hb hW hown hK.1 hR (a := v0) rfl t2 rfl i_Joins 0 2 (by decide) rfl kw_80 (fun _ h9 => h9) d_Joins_climb_11 ?_
      refine lv_iload_n hx hb d_Joins_climb_14 rfl (lv_at hl 1 rfl) ?_
      refine lv_bipush (v := 11) hx hb d_Joins_climb_15 (by decide) ?_
      refine lv_ishr hx hb d_Joins_climb_17 ?_
      obtain ⟨a3, ea3, t4, t4i, hw⟩ := hw
      refine mx_rald hx hb hK.1 hR (a := a3) ea3 t4 t4i d_Joins_climb_18 ?_
      refine lv_iload_n hx hb d_Joins_climb_19 rfl (lv_at hl 1 rfl) ?_
      refine lv_sipush (v := 2047) hx hb d_Joins_climb_20 (by decide) ?_
      refine lv_iand hx hb d_Joins_climb_23 ?_
      obtain ⟨a5, ea5, t6, t6i, hw⟩ := hw
      refine mx_iald hx hb hK.1 hR (a := a5) ea5 t6 t6i d_Joins_climb_24 ?_
      refine lv_topi (fun y7 ey7 => ?_)
      have hw := hw y7 ey7
      refine lv_istore (i := 4) (lv' := [(4, .int y7), (0, va_rf (some v0)), (2, .int x2), (3, .int x3)]) hx hb d_Joins_climb_25 hl (by decide) rfl (fun ls hl => ?_)
      refine lv_iload hx hb d_Joins_climb_27 (lv_at hl 0 rfl) ?_
      refine lv_iload_n hx hb d_Joins_climb_29 rfl (lv_at hl 2 rfl) ?_
      refine lv_icmp_ne (tgt := 36) hx hb d_Joins_climb_30 (by decide) (fun c8 => ?_) (fun c8 => ?_)
      · have hw := hw.1 c8
        refine mx_aload_n (r := some v0) hx hb d_Joins_climb_36 rfl (lv_at hl 1 rfl) ?_
        obtain ⟨t9, hw⟩ := hw
        refine mx_get (ci := 2) (C := "NetJoins$Joins") (T := F_Joins) (N := 1) hx hb hW hown hK.1 hR (a := v0) rfl t9 rfl i_Joins 0 2 (by decide) rfl kw_80 (fun _ h9 => h9) d_Joins_climb_37 ?_
        refine lv_iload hx hb d_Joins_climb_40 (lv_at hl 0 rfl) ?_
        refine lv_bipush (v := 11) hx hb d_Joins_climb_42 (by decide) ?_
        refine lv_ishr hx hb d_Joins_climb_44 ?_
        obtain ⟨a10, ea10, t11, t11i, hw⟩ := hw
        refine mx_rald hx hb hK.1 hR (a := a10) ea10 t11 t11i d_Joins_climb_45 ?_
        refine lv_iload hx hb d_Joins_climb_46 (lv_at hl 0 rfl) ?_
        refine lv_sipush (v := 2047) hx hb d_Joins_climb_48 (by decide) ?_
        refine lv_iand hx hb d_Joins_climb_51 ?_
        obtain ⟨a12, ea12, t13, t13i, hw⟩ := hw
        refine mx_iald hx hb hK.1 hR (a := a12) ea12 t13 t13i d_Joins_climb_52 ?_
        refine lv_topi (fun y14 ey14 => ?_)
        have hw := hw y14 ey14
        refine lv_istore (i := 5) (lv' := [(5, .int y14), (4, .int y7), (0, va_rf (some v0)), (2, .int x2), (3, .int x3)]) hx hb d_Joins_climb_53 hl (by decide) rfl (fun ls hl => ?_)
        refine mx_aload_n (r := some v0) hx hb d_Joins_climb_55 rfl (lv_at hl 2 rfl) ?_
        obtain ⟨t15, hw⟩ := hw
        refine mx_get (ci := 2) (C := "NetJoins$Joins") (T := F_Joins) (N := 1) hx hb hW hown hK.1 hR (a := v0) rfl t15 rfl i_Joins 0 2 (by decide) rfl kw_80 (fun _ h9 => h9) d_Joins_climb_56 ?_
        refine lv_iload_n hx hb d_Joins_climb_59 rfl (lv_at hl 3 rfl) ?_
        refine lv_bipush (v := 11) hx hb d_Joins_climb_60 (by decide) ?_
        refine lv_ishr hx hb d_Joins_climb_62 ?_
        obtain ⟨a16, ea16, t17, t17i, hw⟩ := hw
        refine mx_rald hx hb hK.1 hR (a := a16) ea16 t17 t17i d_Joins_climb_63 ?_
        refine lv_iload_n hx hb d_Joins_climb_64 rfl (lv_at hl 3 rfl) ?_
        refine lv_sipush (v := 2047) hx hb d_Joins_climb_65 (by decide) ?_
        refine lv_iand hx hb d_Joins_climb_68 ?_
        refine lv_iload hx hb d_Joins_climb_69 (lv_at hl 0 rfl) ?_
        obtain ⟨a18, ea18, t19, t19i, hw⟩ := hw
        refine mx_iast hx hb hK.1 hR (a := a18) ea18 t19 t19i d_Joins_climb_71 (fun H locs hR => ?_)
        obtain ⟨h20, eh20⟩ : ∃ z, z = sA h a18 (x2 &&& (2047 : Int32)).toNatClampNeg y14 := ⟨_, rfl⟩
        rw [← eh20] at hR
        have hw := hw h20 eh20
        refine lv_iload hx hb d_Joins_climb_72 (lv_at hl 0 rfl) ?_
        refine lv_istore_n (i := 2) (lv' := [(2, .int y14), (5, .int y14), (4, .int y7), (0, va_rf (some v0)), (3, .int x3)]) hx hb d_Joins_climb_74 rfl hl (by decide) rfl (fun ls hl => ?_)
        obtain ⟨y21, ey21⟩ : ∃ y : Int32, y = x3 + (1 : Int32) := ⟨_, rfl⟩
        have hw := hw y21 ey21
        refine lv_iinc (v := y21) (lv' := [(3, .int y21), (2, .int y14), (5, .int y14), (4, .int y7), (0, va_rf (some v0))]) hx hb d_Joins_climb_75 hl (k := 4) rfl (by rw [ey21]; rfl) (by decide) rfl (fun ls hl => ?_)
        refine lv_goto (tgt := 4) hx hb d_Joins_climb_78 (by decide) ?_
        exact ih y14 y21 _ _ _ _ hw (lv_sub hl [4, 1, 0] rfl) hR
      · have hw := hw.2 c8
        refine lv_goto (tgt := 81) hx hb d_Joins_climb_33 (by decide) ?_
        refine lv_iload_n hx hb d_Joins_climb_81 rfl (lv_at hl 2 rfl) ?_
        exact mx_iret hx hb hr hlocks hR hw d_Joins_climb_82
set_option maxHeartbeats 4000000 in
set_option maxRecDepth 100000 in
theorem mt_Joins_climb (l : Launch) (D : va_G) (cs : CS) (Z : Nat → Nat) (sz : Nat) {post : Int32 → HS → Prop} {h : HS} {v0 : Nat} {x1 : Int32} (hw : wp_Joins_climb post h v0 x1) : Met l y_Joins_climb (Cond.code y_Joins_climb c_Joins_climb 6 (some .int) :: WA) ({ frames := 2, cells := 0, slots := 0, locals := 100 } : Room) (mPc D cs Z h sz [va_rf (some v0), .int x1]) (va_Qi post (mB D cs h sz) (fA h sz)) 0 0 (fA h sz) := by
  refine mx_met (fun sz => va_Qi post (mB D cs h sz) (fA h sz)) (by decide) (by simp [lg_sl, mx_rf_cat, cat_i, cat_l]) ?_
  intro p e s m args below meth c C hR ls hl
  have hl : lv_has ls 6 [(0, va_rf (some v0)), (1, .int x1)] := hl
  obtain ⟨hx, hb, hr, hml, hown, hW, hlocks, hnm, hK, hZ⟩ := id C
  have hown : s.vm.findClass "NetJoins$Joins" = some m.cls := hown
  have hA : ∀ q, s.heap.size ≤ q → fA h s.heap.size q := fun _ h => Or.inr h
  unfold wp_Joins_climb at hw
  refine lv_iload_n hx hb d_Joins_climb_0 rfl (lv_at hl 1 rfl) ?_
  refine lv_istore_n (i := 2) (lv' := [(2, .int x1), (0, va_rf (some v0)), (1, .int x1)]) hx hb d_Joins_climb_1 rfl hl (by decide) rfl (fun ls hl => ?_)
  refine lv_iconst (v := 0) hx hb d_Joins_climb_2 (by decide) ?_
  refine lv_istore_n (i := 3) (lv' := [(3, .int (0 : Int32)), (2, .int x1), (0, va_rf (some v0)), (1, .int x1)]) hx hb d_Joins_climb_3 rfl hl (by decide) rfl (fun ls hl => ?_)
  obtain ⟨n9, hw⟩ := hw
  exact mn_Joins_climb_4 C post n9 x1 (0 : Int32) _ _ _ _ hw (lv_sub hl [2, 1, 0] rfl) hR
set_option maxHeartbeats 4000000 in
set_option maxRecDepth 100000 in
theorem mt_Joins_root (l : Launch) (D : va_G) (cs : CS) (Z : Nat → Nat) (sz : Nat) {post : Int32 → HS → Prop} {h : HS} {v0 : Nat} {x1 : Int32} (hw : wp_Joins_root post h v0 x1) : Met l y_Joins_root (Cond.code y_Joins_root c_Joins_root 2 (some .int) :: WA) ({ frames := 3, cells := 0, slots := 0, locals := 125 } : Room) (mPc D cs Z h sz [va_rf (some v0), .int x1]) (va_Qi post (mB D cs h sz) (fA h sz)) 0 0 (fA h sz) := by
  refine mx_met (fun sz => va_Qi post (mB D cs h sz) (fA h sz)) (by decide) (by simp [lg_sl, mx_rf_cat, cat_i, cat_l]) ?_
  intro p e s m args below meth c C hR ls hl
  have hl : lv_has ls 2 [(0, va_rf (some v0)), (1, .int x1)] := hl
  obtain ⟨hx, hb, hr, hml, hown, hW, hlocks, hnm, hK, hZ⟩ := id C
  have hown : s.vm.findClass "NetJoins$Joins" = some m.cls := hown
  have hA : ∀ q, s.heap.size ≤ q → fA h s.heap.size q := fun _ h => Or.inr h
  unfold wp_Joins_root at hw
  refine mx_aload_n (r := some v0) hx hb d_Joins_root_0 rfl (lv_at hl 0 rfl) ?_
  refine lv_iload_n hx hb d_Joins_root_1 rfl (lv_at hl 1 rfl) ?_
  obtain ⟨t3, hw⟩ := hw
  refine mx_calli (va_runV (b := v0) (As := [.int x1]) (rest := []) ⟨hx, hb, hml, hown, hW⟩ (mt_Joins_has l D cs Z _ hw) (mx_cwV hW ok_Joins_has kw_227 rfl rfl ⟨Nat.le_of_ble_eq_true rfl, Nat.le_of_ble_eq_true rfl⟩) (mx_preV hK hZ hA hR (ci := 2) rfl t3) rfl rfl hl.1 rfl (lv_room (Nat.le_of_ble_eq_true rfl)) d_Joins_root_2 ⟨Nat.le_of_ble_eq_true rfl, Nat.le_of_ble_eq_true rfl⟩) hR hA (fun r1 h2 H locs hw hR => ?_)
  try dsimp only at hw
  refine lv_if_eq (tgt := 16) hx hb d_Joins_root_5 (by decide) (fun c4 => ?_) (fun c4 => ?_)
  · have hw := hw.1 c4
    refine lv_iload_n hx hb d_Joins_root_16 rfl (lv_at hl 1 rfl) ?_
    exact mx_iret hx hb hr hlocks hR hw d_Joins_root_17
  · have hw := hw.2 c4
    refine mx_aload_n (r := some v0) hx hb d_Joins_root_8 rfl (lv_at hl 0 rfl) ?_
    refine lv_iload_n hx hb d_Joins_root_9 rfl (lv_at hl 1 rfl) ?_
    obtain ⟨t7, hw⟩ := hw
    refine mx_calli (va_runV (b := v0) (As := [.int x1]) (rest := []) ⟨hx, hb, hml, hown, hW⟩ (mt_Joins_climb l D cs Z _ hw) (mx_cwV hW ok_Joins_climb kw_231 rfl rfl ⟨Nat.le_of_ble_eq_true rfl, Nat.le_of_ble_eq_true rfl⟩) (mx_preV hK hZ hA hR (ci := 2) rfl t7) rfl rfl hl.1 rfl (lv_room (Nat.le_of_ble_eq_true rfl)) d_Joins_root_10 ⟨Nat.le_of_ble_eq_true rfl, Nat.le_of_ble_eq_true rfl⟩) hR hA (fun r5 h6 H locs hw hR => ?_)
    try dsimp only at hw
    refine lv_goto (tgt := 17) hx hb d_Joins_root_13 (by decide) ?_
    exact mx_iret hx hb hr hlocks hR hw d_Joins_root_17
set_option maxHeartbeats 4000000 in
set_option maxRecDepth 100000 in
theorem mt_Joins_join (l : Launch) (D : va_G) (cs : CS) (Z : Nat → Nat) (sz : Nat) {post : HS → Prop} {h : HS} {v0 : Nat} {x1 : Int32} {x2 : Int32} (hw : wp_Joins_join post h v0 x1 x2) : Met l y_Joins_join (Cond.code y_Joins_join c_Joins_join 7 none :: WA) ({ frames := 3, cells := 0, slots := 0, locals := 125 } : Room) (mPc D cs Z h sz [va_rf (some v0), .int x1, .int x2]) (va_Qv post (mB D cs h sz) (fA h sz)) 0 0 (fA h sz) := by
  refine mx_met (fun sz => va_Qv post (mB D cs h sz) (fA h sz)) (by decide) (by simp [lg_sl, mx_rf_cat, cat_i, cat_l]) ?_
  intro p e s m args below meth c C hR ls hl
  have hl : lv_has ls 7 [(0, va_rf (some v0)), (1, .int x1), (2, .int x2)] := hl
  obtain ⟨hx, hb, hr, hml, hown, hW, hlocks, hnm, hK, hZ⟩ := id C
  have hown : s.vm.findClass "NetJoins$Joins" = some m.cls := hown
  have hA : ∀ q, s.heap.size ≤ q → fA h s.heap.size q := fun _ h => Or.inr h
  unfold wp_Joins_join at hw
  refine mx_aload_n (r := some v0) hx hb d_Joins_join_0 rfl (lv_at hl 0 rfl) ?_
  refine lv_iload_n hx hb d_Joins_join_1 rfl (lv_at hl 1 rfl) ?_
  obtain ⟨t3, hw⟩ := hw
  refine mx_calli (va_runV (b := v0) (As := [.int x1]) (rest := []) ⟨hx, hb, hml, hown, hW⟩ (mt_Joins_has l D cs Z _ hw) (mx_cwV hW ok_Joins_has kw_227 rfl rfl ⟨Nat.le_of_ble_eq_true rfl, Nat.le_of_ble_eq_true rfl⟩) (mx_preV hK hZ hA hR (ci := 2) rfl t3) rfl rfl hl.1 rfl (lv_room (Nat.le_of_ble_eq_true rfl)) d_Joins_join_2 ⟨Nat.le_of_ble_eq_true rfl, Nat.le_of_ble_eq_true rfl⟩) hR hA (fun r1 h2 H locs hw hR => ?_)
  try dsimp only at hw
  refine lv_if_eq (tgt := 16) hx hb d_Joins_join_5 (by decide) (fun c4 => ?_) (fun c4 => ?_)
  · have hw := hw.1 c4
    exact mx_vret hx hb hr hlocks hR hw d_Joins_join_16
  · have hw := hw.2 c4
    refine mx_aload_n (r := some v0) hx hb d_Joins_join_8 rfl (lv_at hl 0 rfl) ?_
    refine lv_iload_n hx hb d_Joins_join_9 rfl (lv_at hl 2 rfl) ?_
    obtain ⟨t7, hw⟩ := hw
    refine mx_calli (va_runV (b := v0) (As := [.int x2]) (rest := []) ⟨hx, hb, hml, hown, hW⟩ (mt_Joins_has l D cs Z _ hw) (mx_cwV hW ok_Joins_has kw_227 rfl rfl ⟨Nat.le_of_ble_eq_true rfl, Nat.le_of_ble_eq_true rfl⟩) (mx_preV hK hZ hA hR (ci := 2) rfl t7) rfl rfl hl.1 rfl (lv_room (Nat.le_of_ble_eq_true rfl)) d_Joins_join_10 ⟨Nat.le_of_ble_eq_true rfl, Nat.le_of_ble_eq_true rfl⟩) hR hA (fun r5 h6 H locs hw hR => ?_)
    try dsimp only at hw
    refine lv_if_ne (tgt := 17) hx hb d_Joins_join_13 (by decide) (fun c8 => ?_) (fun c8 => ?_)
    · have hw := hw.1 c8
      refine mx_aload_n (r := some v0) hx hb d_Joins_join_17 rfl (lv_at hl 0 rfl) ?_
      refine lv_iload_n hx hb d_Joins_join_18 rfl (lv_at hl 1 rfl) ?_
      obtain ⟨t11, hw⟩ := hw
      refine mx_calli (va_runV (b := v0) (As := [.int x1]) (rest := []) ⟨hx, hb, hml, hown, hW⟩ (mt_Joins_climb l D cs Z _ hw) (mx_cwV hW ok_Joins_climb kw_231 rfl rfl ⟨Nat.le_of_ble_eq_true rfl, Nat.le_of_ble_eq_true rfl⟩) (mx_preV hK hZ hA hR (ci := 2) rfl t11) rfl rfl hl.1 rfl (lv_room (Nat.le_of_ble_eq_true rfl)) d_Joins_join_19 ⟨Nat.le_of_ble_eq_true rfl, Nat.le_of_ble_eq_true rfl⟩) hR hA (fun r9 h10 H locs hw hR => ?_)
      try dsimp only at hw
      refine lv_istore_n (i := 3) (lv' := [(3, .int r9), (0, va_rf (some v0)), (1, .int x1), (2, .int x2)]) hx hb d_Joins_join_22 rfl hl (by decide) rfl (fun ls hl => ?_)
      refine mx_aload_n (r := some v0) hx hb d_Joins_join_23 rfl (lv_at hl 1 rfl) ?_
      refine lv_iload_n hx hb d_Joins_join_24 rfl (lv_at hl 3 rfl) ?_
      obtain ⟨t14, hw⟩ := hw
      refine mx_calli (va_runV (b := v0) (As := [.int x2]) (rest := []) ⟨hx, hb, hml, hown, hW⟩ (mt_Joins_climb l D cs Z _ hw) (mx_cwV hW ok_Joins_climb kw_231 rfl rfl ⟨Nat.le_of_ble_eq_true rfl, Nat.le_of_ble_eq_true rfl⟩) (mx_preV hK hZ hA hR (ci := 2) rfl t14) rfl rfl hl.1 rfl (lv_room (Nat.le_of_ble_eq_true rfl)) d_Joins_join_25 ⟨Nat.le_of_ble_eq_true rfl, Nat.le_of_ble_eq_true rfl⟩) hR hA (fun r12 h13 H locs hw hR => ?_)
      try dsimp only at hw
      refine lv_istore (i := 4) (lv' := [(4, .int r12), (3, .int r9), (0, va_rf (some v0)), (1, .int x1), (2, .int x2)]) hx hb d_Joins_join_28 hl (by decide) rfl (fun ls hl => ?_)
      refine lv_iload_n hx hb d_Joins_join_30 rfl (lv_at hl 1 rfl) ?_
      refine lv_iload hx hb d_Joins_join_31 (lv_at hl 0 rfl) ?_
      refine va_mmin hx hb (by rw [hml]; exact hl.1.symm) hown (hW _ kw_330) (hW _ kw_331) (hW _ kw_18) (hW _ kw_332) (Nat.le_of_ble_eq_true rfl) (Nat.le_of_ble_eq_true rfl) (Nat.le_of_ble_eq_true rfl) (Nat.le_of_ble_eq_true rfl) d_Joins_join_33 ?_
      refine lv_topi (fun y15 ey15 => ?_)
      have hw := hw y15 ey15
      refine lv_istore (i := 5) (lv' := [(5, .int y15), (4, .int r12), (3, .int r9), (0, va_rf (some v0)), (1, .int x1), (2, .int x2)]) hx hb d_Joins_join_36 hl (by decide) rfl (fun ls hl => ?_)
      refine lv_iload_n hx hb d_Joins_join_38 rfl (lv_at hl 2 rfl) ?_
      refine lv_iload hx hb d_Joins_join_39 (lv_at hl 1 rfl) ?_
      refine va_mmax hx hb (by rw [hml]; exact hl.1.symm) hown (hW _ kw_333) (hW _ kw_334) (hW _ kw_18) (hW _ kw_335) (Nat.le_of_ble_eq_true rfl) (Nat.le_of_ble_eq_true rfl) (Nat.le_of_ble_eq_true rfl) (Nat.le_of_ble_eq_true rfl) d_Joins_join_41 ?_
      refine lv_topi (fun y16 ey16 => ?_)
      have hw := hw y16 ey16
      refine lv_istore (i := 6) (lv' := [(6, .int y16), (5, .int y15), (4, .int r12), (3, .int r9), (0, va_rf (some v0)), (1, .int x1), (2, .int x2)]) hx hb d_Joins_join_44 hl (by decide) rfl (fun ls hl => ?_)
      refine mx_aload_n (r := some v0) hx hb d_Joins_join_46 rfl (lv_at hl 4 rfl) ?_
      obtain ⟨t17, hw⟩ := hw
      refine mx_get (ci := 2) (C := "NetJoins$Joins") (T := F_Joins) (N := 1) hx hb hW hown hK.1 hR (a := v0) rfl t17 rfl i_Joins 0 2 (by decide) rfl kw_80 (fun _ h9 => h9) d_Joins_join_47 ?_
      refine lv_iload hx hb d_Joins_join_50 (lv_at hl 0 rfl) ?_
      refine lv_bipush (v := 11) hx hb d_Joins_join_52 (by decide) ?_
      refine lv_ishr hx hb d_Joins_join_54 ?_
      obtain ⟨a18, ea18, t19, t19i, hw⟩ := hw
      refine mx_rald hx hb hK.1 hR (a := a18) ea18 t19 t19i d_Joins_join_55 ?_
      refine lv_iload hx hb d_Joins_join_56 (lv_at hl 0 rfl) ?_
      refine lv_sipush (v := 2047) hx hb d_Joins_join_58 (by decide) ?_
      refine lv_iand hx hb d_Joins_join_61 ?_
      refine lv_iload hx hb d_Joins_join_62 (lv_at hl 1 rfl) ?_
      obtain ⟨a20, ea20, t21, t21i, hw⟩ := hw
      refine mx_iast hx hb hK.1 hR (a := a20) ea20 t21 t21i d_Joins_join_64 (fun H locs hR => ?_)
      obtain ⟨h22, eh22⟩ : ∃ z, z = sA h13 a20 (y16 &&& (2047 : Int32)).toNatClampNeg y15 := ⟨_, rfl⟩
      rw [← eh22] at hR
      have hw := hw h22 eh22
      exact mx_vret hx hb hr hlocks hR hw d_Joins_join_65
    · have hw := hw.2 c8
      exact mx_vret hx hb hr hlocks hR hw d_Joins_join_16
