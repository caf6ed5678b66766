set_option maxHeartbeats 4000000 in
set_option maxRecDepth 100000 in
theorem mn_NJ_touchAnew_128 {D : va_G} {cs : CS} {Z : Nat → Nat} {h0 : HS} {p : Program} {l : Launch} {e : Env} {s : State} {m : MethodId} {args : Array Value} {below : List Frame} {meth : Method} {c : Code} {v0 : Nat} (C : mC D cs Z h0 y_NJ_touchAnew c_NJ_touchAnew 2 none p s m args meth c) (post : HS → Prop) : ∀ (n : Nat) (x1 : Int32) (h : HS) (H : Heap) (locs : List Loc) (ls : Array Slot), lpF (wb_NJ_touchAnew_128 Z post v0) n (x1, h) → lv_has ls 2 [(0, va_rf (some v0)), (1, .int x1)] → mR D cs (fA h0 s.heap.size) h s.heap H locs → W p l e ({ frames := 7, cells := 0, slots := 0, locals := 210 } : Room) s m args below meth c H locs 0 0 (MQ below (va_Qv post (mB D cs h0 s.heap.size) (fA h0 s.heap.size)) args s 0 0 (fA h0 s.heap.size)) (F0 m 128 ls []) := by
  obtain ⟨hx, hb, hr, hml, hown, hW, hlocks, hnm, hK, hZ⟩ := id C
  have hown : s.vm.findClass "NetJoins" = some m.cls := hown
  have hA : ∀ q, s.heap.size ≤ q → fA h0 s.heap.size q := fun _ h => Or.inr h
  intro n
  induction n with
  | zero => intro x1 h H locs ls hw; exact hw.elim
  | succ n ih =>
    intro x1 h H locs ls hw hl hR
    have hw : wb_NJ_touchAnew_128 Z post v0 (lpF (wb_NJ_touchAnew_128 Z post v0) n) (x1, h) := hw
    unfold wb_NJ_touchAnew_128 at hw
    dsimp only at hw
    refine lv_iload_n hx hb d_NJ_touchAnew_128 rfl (lv_at hl 1 rfl) ?_
    refine mx_aload_n (r := some v0) hx hb d_NJ_touchAnew_129 rfl (lv_at hl 0 rfl) ?_
    obtain ⟨t1, hw⟩ := hw
    refine mx_get (ci := 0) (C := "NetJoins") (T := F_NJ) (N := 18) hx hb hW hown hK.1 hR (a := v0) rfl t1 rfl i_NJ 5 2 (by decide) rfl kw_125 (fun _ h9 => h9) d_NJ_touchAnew_130 ?_
    obtain ⟨a4, ea4, t5, hw⟩ := hw
    refine W.eq (g2 := F0 m 133 ls [va_rf (some a4), .int x1]) (by rw [← ea4] <;> rfl) ?_
    refine mx_calli (va_runV (b := a4) (As := []) (rest := [.int x1]) ⟨hx, hb, hml, hown, hW⟩ (mt_AL_size l D cs Z _ hw) (mx_cwV hW ok_AL_size kw_192 rfl rfl ⟨Nat.le_of_ble_eq_true rfl, Nat.le_of_ble_eq_true rfl⟩) (mx_preV hK hZ hA hR (ci := 9) rfl t5) rfl rfl hl.1 rfl (lv_room (Nat.le_of_ble_eq_true rfl)) d_NJ_touchAnew_133 ⟨Nat.le_of_ble_eq_true rfl, Nat.le_of_ble_eq_true rfl⟩) hR hA (fun r2 h3 H locs hw hR => ?_)
    try dsimp only at hw
    refine lv_icmp_ge (tgt := 160) hx hb d_NJ_touchAnew_136 (by decide) (fun c6 => ?_) (fun c6 => ?_)
    · have hw := hw.1 c6
      exact mx_vret hx hb hr hlocks hR hw d_NJ_touchAnew_160
    · have hw := hw.2 c6
      refine mx_aload_n (r := some v0) hx hb d_NJ_touchAnew_139 rfl (lv_at hl 0 rfl) ?_
      refine mx_aload_n (r := some v0) hx hb d_NJ_touchAnew_140 rfl (lv_at hl 0 rfl) ?_
      obtain ⟨t7, hw⟩ := hw
      refine mx_get (ci := 0) (C := "NetJoins") (T := F_NJ) (N := 18) hx hb hW hown hK.1 hR (a := v0) rfl t7 rfl i_NJ 5 2 (by decide) rfl kw_125 (fun _ h9 => h9) d_NJ_touchAnew_141 ?_
      refine lv_iload_n hx hb d_NJ_touchAnew_144 rfl (lv_at hl 1 rfl) ?_
      obtain ⟨a10, ea10, t11, hw⟩ := hw
      refine W.eq (g2 := F0 m 145 ls [.int x1, va_rf (some a10), va_rf (some v0)]) (by rw [← ea10] <;> rfl) ?_
      refine mx_callr (va_runV (b := a10) (As := [.int x1]) (rest := [va_rf (some v0)]) ⟨hx, hb, hml, hown, hW⟩ (mt_AL_get l D cs Z _ hw) (mx_cwV hW ok_AL_get kw_196 rfl rfl ⟨Nat.le_of_ble_eq_true rfl, Nat.le_of_ble_eq_true rfl⟩) (mx_preV hK hZ hA hR (ci := 9) rfl t11) rfl rfl hl.1 rfl (lv_room (Nat.le_of_ble_eq_true rfl)) d_NJ_touchAnew_145 ⟨Nat.le_of_ble_eq_true rfl, Nat.le_of_ble_eq_true rfl⟩) hR hA (fun r8 h9 H locs hw hR => ?_)
      try dsimp only at hw
      obtain ⟨t12, hw⟩ := hw
      refine mx_cast (ci := 6) (C := "NetJoins$Spot") (T := F_Spot) (N := 6) hx hb hW hown hK.1 hR rfl kw_210 t12 d_NJ_touchAnew_148 ?_
      obtain ⟨t15, hw⟩ := hw
      refine mx_callv (va_runV (b := v0) (As := [va_rf r8]) (rest := []) ⟨hx, hb, hml, hown, hW⟩ (mt_NJ_joinSpot l D cs Z _ hw) (mx_cwV hW ok_NJ_joinSpot kw_340 rfl rfl ⟨Nat.le_of_ble_eq_true rfl, Nat.le_of_ble_eq_true rfl⟩) (mx_preV hK hZ hA hR (ci := 0) rfl t15) rfl rfl hl.1 rfl (lv_room (Nat.le_of_ble_eq_true rfl)) d_NJ_touchAnew_151 ⟨Nat.le_of_ble_eq_true rfl, Nat.le_of_ble_eq_true rfl⟩) hR hA (fun h14 H locs hw hR => ?_)
      try dsimp only at hw
      obtain ⟨y16, ey16⟩ : ∃ y : Int32, y = x1 + (1 : Int32) := ⟨_, rfl⟩
      have hw := hw y16 ey16
      refine lv_iinc (v := y16) (lv' := [(1, .int y16), (0, va_rf (some v0))]) hx hb d_NJ_touchAnew_154 hl (k := 1) rfl (by rw [ey16]; rfl) (by decide) rfl (fun ls hl => ?_)
      refine lv_goto (tgt := 128) hx hb d_NJ_touchAnew_157 (by decide) ?_
      exact ih y16 _ _ _ _ hw (lv_sub hl [1, 0] rfl) hR
set_option maxHeartbeats 4000000 in
set_option maxRecDepth 100000 in
theorem mn_NJ_touchAnew_94 {D : va_G} {cs : CS} {Z : Nat → Nat} {h0 : HS} {p : Program} {l : Launch} {e : Env} {s : State} {m : MethodId} {args : Array Value} {below : List Frame} {meth : Method} {c : Code} {v0 : Nat} (C : mC D cs Z h0 y_NJ_touchAnew c_NJ_touchAnew 2 none p s m args meth c) (post : HS → Prop) : ∀ (n : Nat) (x1 : Int32) (h : HS) (H : Heap) (locs : List Loc) (ls : Array Slot), lpF (wb_NJ_touchAnew_94 Z post v0) n (x1, h) → lv_has ls 2 [(0, va_rf (some v0)), (1, .int x1)] → mR D cs (fA h0 s.heap.size) h s.heap H locs → W p l e ({ frames := 7, cells := 0, slots := 0, locals := 210 } : Room) s m args below meth c H locs 0 0 (MQ below (va_Qv post (mB D cs h0 s.heap.size) (fA h0 s.heap.size)) args s 0 0 (fA h0 s.heap.size)) (F0 m 94 ls []) := by
  obtain ⟨hx, hb, hr, hml, hown, hW, hlocks, hnm, hK, hZ⟩ := id C
  have hown : s.vm.findClass "NetJoins" = some m.cls := hown
  have hA : ∀ q, s.heap.size ≤ q → fA h0 s.heap.size q := fun _ h => Or.inr h
  intro n
  induction n with
  | zero => intro x1 h H locs ls hw; exact hw.elim
  | succ n ih =>
    intro x1 h H locs ls hw hl hR
    have hw : wb_NJ_touchAnew_94 Z post v0 (lpF (wb_NJ_touchAnew_94 Z post v0) n) (x1, h) := hw
    unfold wb_NJ_touchAnew_94 at hw
    dsimp only at hw
    refine lv_iload_n hx hb d_NJ_touchAnew_94 rfl (lv_at hl 1 rfl) ?_
    refine mx_aload_n (r := some v0) hx hb d_NJ_touchAnew_95 rfl (lv_at hl 0 rfl) ?_
    obtain ⟨t1, hw⟩ := hw
    refine mx_get (ci := 0) (C := "NetJoins") (T := F_NJ) (N := 18) hx hb hW hown hK.1 hR (a := v0) rfl t1 rfl i_NJ 3 2 (by decide) rfl kw_123 (fun _ h9 => h9) d_NJ_touchAnew_96 ?_
    obtain ⟨a4, ea4, t5, hw⟩ := hw
    refine W.eq (g2 := F0 m 99 ls [va_rf (some a4), .int x1]) (by rw [← ea4] <;> rfl) ?_
    refine mx_calli (va_runV (b := a4) (As := []) (rest := [.int x1]) ⟨hx, hb, hml, hown, hW⟩ (mt_AL_size l D cs Z _ hw) (mx_cwV hW ok_AL_size kw_192 rfl rfl ⟨Nat.le_of_ble_eq_true rfl, Nat.le_of_ble_eq_true rfl⟩) (mx_preV hK hZ hA hR (ci := 9) rfl t5) rfl rfl hl.1 rfl (lv_room (Nat.le_of_ble_eq_true rfl)) d_NJ_touchAnew_99 ⟨Nat.le_of_ble_eq_true rfl, Nat.le_of_ble_eq_true rfl⟩) hR hA (fun r2 h3 H locs hw hR => ?_)
    try dsimp only at hw
    refine lv_icmp_ge (tgt := 126) hx hb d_NJ_touchAnew_102 (by decide) (fun c6 => ?_) (fun c6 => ?_)
    · have hw := hw.1 c6
      refine lv_iconst (v := 0) hx hb d_NJ_touchAnew_126 (by decide) ?_
      refine lv_istore_n (i := 1) (lv' := [(1, .int (0 : Int32)), (0, va_rf (some v0))]) hx hb d_NJ_touchAnew_127 rfl hl (by decide) rfl (fun ls hl => ?_)
      obtain ⟨n9, hw⟩ := hw
      exact mn_NJ_touchAnew_128 C post n9 (0 : Int32) _ _ _ _ hw (lv_sub hl [1, 0] rfl) hR
    · have hw := hw.2 c6
      refine mx_aload_n (r := some v0) hx hb d_NJ_touchAnew_105 rfl (lv_at hl 0 rfl) ?_
      refine mx_aload_n (r := some v0) hx hb d_NJ_touchAnew_106 rfl (lv_at hl 0 rfl) ?_
      obtain ⟨t7, hw⟩ := hw
      refine mx_get (ci := 0) (C := "NetJoins") (T := F_NJ) (N := 18) hx hb hW hown hK.1 hR (a := v0) rfl t7 rfl i_NJ 3 2 (by decide) rfl kw_123 (fun _ h9 => h9) d_NJ_touchAnew_107 ?_
      refine lv_iload_n hx hb d_NJ_touchAnew_110 rfl (lv_at hl 1 rfl) ?_
      obtain ⟨a10, ea10, t11, hw⟩ := hw
      refine W.eq (g2 := F0 m 111 ls [.int x1, va_rf (some a10), va_rf (some v0)]) (by rw [← ea10] <;> rfl) ?_
      refine mx_callr (va_runV (b := a10) (As := [.int x1]) (rest := [va_rf (some v0)]) ⟨hx, hb, hml, hown, hW⟩ (mt_AL_get l D cs Z _ hw) (mx_cwV hW ok_AL_get kw_196 rfl rfl ⟨Nat.le_of_ble_eq_true rfl, Nat.le_of_ble_eq_true rfl⟩) (mx_preV hK hZ hA hR (ci := 9) rfl t11) rfl rfl hl.1 rfl (lv_room (Nat.le_of_ble_eq_true rfl)) d_NJ_touchAnew_111 ⟨Nat.le_of_ble_eq_true rfl, Nat.le_of_ble_eq_true rfl⟩) hR hA (fun r8 h9 H locs hw hR => ?_)
      try dsimp only at hw
      obtain ⟨t12, hw⟩ := hw
      refine mx_cast (ci := 6) (C := "NetJoins$Spot") (T := F_Spot) (N := 6) hx hb hW hown hK.1 hR rfl kw_210 t12 d_NJ_touchAnew_114 ?_
      obtain ⟨t15, hw⟩ := hw
      refine mx_callv (va_runV (b := v0) (As := [va_rf r8]) (rest := []) ⟨hx, hb, hml, hown, hW⟩ (mt_NJ_joinSpot l D cs Z _ hw) (mx_cwV hW ok_NJ_joinSpot kw_340 rfl rfl ⟨Nat.le_of_ble_eq_true rfl, Nat.le_of_ble_eq_true rfl⟩) (mx_preV hK hZ hA hR (ci := 0) rfl t15) rfl rfl hl.1 rfl (lv_room (Nat.le_of_ble_eq_true rfl)) d_NJ_touchAnew_117 ⟨Nat.le_of_ble_eq_true rfl, Nat.le_of_ble_eq_true rfl⟩) hR hA (fun h14 H locs hw hR => ?_)
      try dsimp only at hw
      obtain ⟨y16, ey16⟩ : ∃ y : Int32, y = x1 + (1 : Int32) := ⟨_, rfl⟩
      have hw := hw y16 ey16
      refine lv_iinc (v := y16) (lv' := [(1, .int y16), (0, va_rf (some v0))]) hx hb d_NJ_touchAnew_120 hl (k := 1) rfl (by rw [ey16]; rfl) (by decide) rfl (fun ls hl => ?_)
      refine lv_goto (tgt := 94) hx hb d_NJ_touchAnew_123 (by decide) ?_
      exact ih y16 _ _ _ _ hw (lv_sub hl [1, 0] rfl) hR
set_option maxHeartbeats 4000000 in
set_option maxRecDepth 100000 in
theorem mn_NJ_touchAnew_60 {D : va_G} {cs : CS} {Z : Nat → Nat} {h0 : HS} {p : Program} {l : Launch} {e : Env} {s : State} {m : MethodId} {args : Array Value} {below : List Frame} {meth : Method} {c : Code} {v0 : Nat} (C : mC D cs Z h0 y_NJ_touchAnew c_NJ_touchAnew 2 none p s m args meth c) (post : HS → Prop) : ∀ (n : Nat) (x1 : Int32) (h : HS) (H : Heap) (locs : List Loc) (ls : Array Slot), lpF (wb_NJ_touchAnew_60 Z post v0) n (x1, h) → lv_has ls 2 [(0, va_rf (some v0)), (1, .int x1)] → mR D cs (fA h0 s.heap.size) h s.heap H locs → W p l e ({ frames := 7, cells := 0, slots := 0, locals := 210 } : Room) s m args below meth c H locs 0 0 (MQ below (va_Qv post (mB D cs h0 s.heap.size) (fA h0 s.heap.size)) args s 0 0 (fA h0 s.heap.size)) (F0 m 60 ls []) := by
  obtain ⟨hx, hb, hr, hml, hown, hW, hlocks, hnm, hK, hZ⟩ := id C
  have hown : s.vm.findClass "NetJoins" = some m.cls := hown
  have hA : ∀ q, s.heap.size ≤ q → fA h0 s.heap.size q := fun _ h => Or.inr h
  intro n
  induction n with
  | zero => intro x1 h H locs ls hw; exact hw.elim
  | succ n ih =>
    intro x1 h H locs ls hw hl hR
    have hw : wb_NJ_touchAnew_60 Z post v0 (lpF (wb_NJ_touchAnew_60 Z post v0) n) (x1, h) := hw
    unfold wb_NJ_touchAnew_60 at hw
    dsimp only at hw
    refine lv_iload_n hx hb d_NJ_touchAnew_60 rfl (lv_at hl 1 rfl) ?_
    refine mx_aload_n (r := some v0) hx hb d_NJ_touchAnew_61 rfl (lv_at hl 0 rfl) ?_
    obtain ⟨t1, hw⟩ := hw
    refine mx_get (ci := 0) (C := "NetJoins") (T := F_NJ) (N := 18) hx hb hW hown hK.1 hR (a := v0) rfl t1 rfl i_NJ 2 2 (by decide) rfl kw_122 (fun _ h9 => h9) d_NJ_touchAnew_62 ?_
    obtain ⟨a4, ea4, t5, hw⟩ := hw
    refine W.eq (g2 := F0 m 65 ls [va_rf (some a4), .int x1]) (by rw [← ea4] <;> rfl) ?_
    refine mx_calli (va_runV (b := a4) (As := []) (rest := [.int x1]) ⟨hx, hb, hml, hown, hW⟩ (mt_AL_size l D cs Z _ hw) (mx_cwV hW ok_AL_size kw_192 rfl rfl ⟨Nat.le_of_ble_eq_true rfl, Nat.le_of_ble_eq_true rfl⟩) (mx_preV hK hZ hA hR (ci := 9) rfl t5) rfl rfl hl.1 rfl (lv_room (Nat.le_of_ble_eq_true rfl)) d_NJ_touchAnew_65 ⟨Nat.le_of_ble_eq_true rfl, Nat.le_of_ble_eq_true rfl⟩) hR hA (fun r2 h3 H locs hw hR => ?_)
    try dsimp only at hw
    refine lv_icmp_ge (tgt := 92) hx hb d_NJ_touchAnew_68 (by decide) (fun c6 => ?_) (fun c6 => ?_)
    · have hw := hw.1 c6
      refine lv_iconst (v := 0) hx hb d_NJ_touchAnew_92 (by decide) ?_
      refine lv_istore_n (i := 1) (lv' := [(1, .int (0 : Int32)), (0, va_rf (some v0))]) hx hb d_NJ_touchAnew_93 rfl hl (by decide) rfl (fun ls hl => ?_)
      obtain ⟨n9, hw⟩ := hw
      exact mn_NJ_touchAnew_94 C post n9 (0 : Int32) _ _ _ _ hw (lv_sub hl [1, 0] rfl) hR
    · have hw := hw.2 c6
      refine mx_aload_n (r := some v0) hx hb d_NJ_touchAnew_71 rfl (lv_at hl 0 rfl) ?_
      refine mx_aload_n (r := some v0) hx hb d_NJ_touchAnew_72 rfl (lv_at hl 0 rfl) ?_
      obtain ⟨t7, hw⟩ := hw
      refine mx_get (ci := 0) (C := "NetJoins") (T := F_NJ) (N := 18) hx hb hW hown hK.1 hR (a := v0) rfl t7 rfl i_NJ 2 2 (by decide) rfl kw_122 (fun _ h9 => h9) d_NJ_touchAnew_73 ?_
      refine lv_iload_n hx hb d_NJ_touchAnew_76 rfl (lv_at hl 1 rfl) ?_
      obtain ⟨a10, ea10, t11, hw⟩ := hw
      refine W.eq (g2 := F0 m 77 ls [.int x1, va_rf (some a10), va_rf (some v0)]) (by rw [← ea10] <;> rfl) ?_
      refine mx_callr (va_runV (b := a10) (As := [.int x1]) (rest := [va_rf (some v0)]) ⟨hx, hb, hml, hown, hW⟩ (mt_AL_get l D cs Z _ hw) (mx_cwV hW ok_AL_get kw_196 rfl rfl ⟨Nat.le_of_ble_eq_true rfl, Nat.le_of_ble_eq_true rfl⟩) (mx_preV hK hZ hA hR (ci := 9) rfl t11) rfl rfl hl.1 rfl (lv_room (Nat.le_of_ble_eq_true rfl)) d_NJ_touchAnew_77 ⟨Nat.le_of_ble_eq_true rfl, Nat.le_of_ble_eq_true rfl⟩) hR hA (fun r8 h9 H locs hw hR => ?_)
      try dsimp only at hw
      obtain ⟨t12, hw⟩ := hw
      refine mx_cast (ci := 6) (C := "NetJoins$Spot") (T := F_Spot) (N := 6) hx hb hW hown hK.1 hR rfl kw_210 t12 d_NJ_touchAnew_80 ?_
      obtain ⟨t15, hw⟩ := hw
      refine mx_callv (va_runV (b := v0) (As := [va_rf r8]) (rest := []) ⟨hx, hb, hml, hown, hW⟩ (mt_NJ_joinJunction l D cs Z _ hw) (mx_cwV hW ok_NJ_joinJunction kw_336 rfl rfl ⟨Nat.le_of_ble_eq_true rfl, Nat.le_of_ble_eq_true rfl⟩) (mx_preV hK hZ hA hR (ci := 0) rfl t15) rfl rfl hl.1 rfl (lv_room (Nat.le_of_ble_eq_true rfl)) d_NJ_touchAnew_83 ⟨Nat.le_of_ble_eq_true rfl, Nat.le_of_ble_eq_true rfl⟩) hR hA (fun h14 H locs hw hR => ?_)
      try dsimp only at hw
      obtain ⟨y16, ey16⟩ : ∃ y : Int32, y = x1 + (1 : Int32) := ⟨_, rfl⟩
      have hw := hw y16 ey16
      refine lv_iinc (v := y16) (lv' := [(1, .int y16), (0, va_rf (some v0))]) hx hb d_NJ_touchAnew_86 hl (k := 1) rfl (by rw [ey16]; rfl) (by decide) rfl (fun ls hl => ?_)
      refine lv_goto (tgt := 60) hx hb d_NJ_touchAnew_89 (by decide) ?_
      exact ih y16 _ _ _ _ hw (lv_sub hl [1, 0] rfl) hR
set_option maxHeartbeats 4000000 in
set_option maxRecDepth 100000 in
theorem mn_NJ_touchAnew_52 {D : va_G} {cs : CS} {Z : Nat → Nat} {h0 : HS} {p : Program} {l : Launch} {e : Env} {s : State} {m : MethodId} {args : Array Value} {below : List Frame} {meth : Method} {c : Code} {v0 : Nat} (C : mC D cs Z h0 y_NJ_touchAnew c_NJ_touchAnew 2 none p s m args meth c) (post : HS → Prop) (K9 : Int32 × HS → Prop) (hK9 : ∀ (x1 : Int32) (h : HS) (H : Heap) (locs : List Loc) (ls : Array Slot), K9 (x1, h) → lv_has ls 2 [(0, va_rf (some v0)), (1, .int x1)] → mR D cs (fA h0 s.heap.size) h s.heap H locs → W p l e ({ frames := 7, cells := 0, slots := 0, locals := 210 } : Room) s m args below meth c H locs 0 0 (MQ below (va_Qv post (mB D cs h0 s.heap.size) (fA h0 s.heap.size)) args s 0 0 (fA h0 s.heap.size)) (F0 m 9 ls [])) : ∀ (x1 : Int32) (h : HS) (H : Heap) (locs : List Loc) (ls : Array Slot), wj_NJ_touchAnew_52 Z post K9 v0 x1 h → lv_has ls 2 [(0, va_rf (some v0)), (1, .int x1)] → mR D cs (fA h0 s.heap.size) h s.heap H locs → W p l e ({ frames := 7, cells := 0, slots := 0, locals := 210 } : Room) s m args below meth c H locs 0 0 (MQ below (va_Qv post (mB D cs h0 s.heap.size) (fA h0 s.heap.size)) args s 0 0 (fA h0 s.heap.size)) (F0 m 52 ls []) := by
  obtain ⟨hx, hb, hr, hml, hown, hW, hlocks, hnm, hK, hZ⟩ := id C
  have hown : s.vm.findClass "NetJoins" = some m.cls := hown
  have hA : ∀ q, s.heap.size ≤ q → fA h0 s.heap.size q := fun _ h => Or.inr h
  intro x1 h H locs ls hw hl hR
  unfold wj_NJ_touchAnew_52 at hw
  obtain ⟨y1, ey1⟩ : ∃ y : Int32, y = x1 + (1 : Int32) := ⟨_, rfl⟩
  have hw := hw y1 ey1
  refine lv_iinc (v := y1) (lv' := [(1, .int y1), (0, va_rf (some v0))]) hx hb d_NJ_touchAnew_52 hl (k := 1) rfl (by rw [ey1]; rfl) (by decide) rfl (fun ls hl => ?_)
  refine lv_goto (tgt := 9) hx hb d_NJ_touchAnew_55 (by decide) ?_
  exact hK9 y1 _ _ _ _ hw (lv_sub hl [1, 0] rfl) hR
set_option maxHeartbeats 4000000 in
set_option maxRecDepth 100000 in
theorem mn_NJ_touchAnew_9 {D : va_G} {cs : CS} {Z : Nat → Nat} {h0 : HS} {p : Program} {l : Launch} {e : Env} {s : State} {m : MethodId} {args : Array Value} {below : List Frame} {meth : Method} {c : Code} {v0 : Nat} (C : mC D cs Z h0 y_NJ_touchAnew c_NJ_touchAnew 2 none p s m args meth c) (post : HS → Prop) : ∀ (n : Nat) (x1 : Int32) (h : HS) (H : Heap) (locs : List Loc) (ls : Array Slot), lpF (wb_NJ_touchAnew_9 Z post v0) n (x1, h) → lv_has ls 2 [(0, va_rf (some v0)), (1, .int x1)] → mR D cs (fA h0 s.heap.size) h s.heap H locs → W p l e ({ frames := 7, cells := 0, slots := 0, locals := 210 } : Room) s m args below meth c H locs 0 0 (MQ below (va_Qv post (mB D cs h0 s.heap.size) (fA h0 s.heap.size)) args s 0 0 (fA h0 s.heap.size)) (F0 m 9 ls []) := by
  obtain ⟨hx, hb, hr, hml, hown, hW, hlocks, hnm, hK, hZ⟩ := id C
  have hown : s.vm.findClass "NetJoins" = some m.cls := hown
  have hA : ∀ q, s.heap.size ≤ q → fA h0 s.heap.size q := fun _ h => Or.inr h
  intro n
  induction n with
  | zero => intro x1 h H locs ls hw; exact hw.elim
  | succ n ih =>
    intro x1 h H locs ls hw hl hR
    have hw : wb_NJ_touchAnew_9 Z post v0 (lpF (wb_NJ_touchAnew_9 Z post v0) n) (x1, h) := hw
    unfold wb_NJ_touchAnew_9 at hw
    dsimp only at hw
    refine lv_iload_n hx hb d_NJ_touchAnew_9 rfl (lv_at hl 1 rfl) ?_
    refine mx_aload_n (r := some v0) hx hb d_NJ_touchAnew_10 rfl (lv_at hl 0 rfl) ?_
    obtain ⟨t1, hw⟩ := hw
    refine mx_get (ci := 0) (C := "NetJoins") (T := F_NJ) (N := 18) hx hb hW hown hK.1 hR (a := v0) rfl t1 rfl i_NJ 1 2 (by decide) rfl kw_121 (fun _ h9 => h9) d_NJ_touchAnew_11 ?_
    obtain ⟨a4, ea4, t5, hw⟩ := hw
    refine W.eq (g2 := F0 m 14 ls [va_rf (some a4), .int x1]) (by rw [← ea4] <;> rfl) ?_
    refine mx_calli (va_runV (b := a4) (As := []) (rest := [.int x1]) ⟨hx, hb, hml, hown, hW⟩ (mt_AL_size l D cs Z _ hw) (mx_cwV hW ok_AL_size kw_192 rfl rfl ⟨Nat.le_of_ble_eq_true rfl, Nat.le_of_ble_eq_true rfl⟩) (mx_preV hK hZ hA hR (ci := 9) rfl t5) rfl rfl hl.1 rfl (lv_room (Nat.le_of_ble_eq_true rfl)) d_NJ_touchAnew_14 ⟨Nat.le_of_ble_eq_true rfl, Nat.le_of_ble_eq_true rfl⟩) hR hA (fun r2 h3 H locs hw hR => ?_)
    try dsimp only at hw
    refine lv_icmp_ge (tgt := 58) hx hb d_NJ_touchAnew_17 (by decide) (fun c6 => ?_) (fun c6 => ?_)
    · have hw := hw.1 c6
      refine lv_iconst (v := 0) hx hb d_NJ_touchAnew_58 (by decide) ?_
      refine lv_istore_n (i := 1) (lv' := [(1, .int (0 : Int32)), (0, va_rf (some v0))]) hx hb d_NJ_touchAnew_59 rfl hl (by decide) rfl (fun ls hl => ?_)
      obtain ⟨n9, hw⟩ := hw
      exact mn_NJ_touchAnew_60 C post n9 (0 : Int32) _ _ _ _ hw (lv_sub hl [1, 0] rfl) hR
    · have hw := hw.2 c6
      refine mx_aload_n (r := some v0) hx hb d_NJ_touchAnew_20 rfl (lv_at hl 0 rfl) ?_
      obtain ⟨t7, hw⟩ := hw
      refine mx_get (ci := 0) (C := "NetJoins") (T := F_NJ) (N := 18) hx hb hW hown hK.1 hR (a := v0) rfl t7 rfl i_NJ 1 2 (by decide) rfl kw_121 (fun _ h9 => h9) d_NJ_touchAnew_21 ?_
      refine lv_iload_n hx hb d_NJ_touchAnew_24 rfl (lv_at hl 1 rfl) ?_
      obtain ⟨a10, ea10, t11, hw⟩ := hw
      refine W.eq (g2 := F0 m 25 ls [.int x1, va_rf (some a10)]) (by rw [← ea10] <;> rfl) ?_
      refine mx_callr (va_runV (b := a10) (As := [.int x1]) (rest := []) ⟨hx, hb, hml, hown, hW⟩ (mt_AL_get l D cs Z _ hw) (mx_cwV hW ok_AL_get kw_196 rfl rfl ⟨Nat.le_of_ble_eq_true rfl, Nat.le_of_ble_eq_true rfl⟩) (mx_preV hK hZ hA hR (ci := 9) rfl t11) rfl rfl hl.1 rfl (lv_room (Nat.le_of_ble_eq_true rfl)) d_NJ_touchAnew_25 ⟨Nat.le_of_ble_eq_true rfl, Nat.le_of_ble_eq_true rfl⟩) hR hA (fun r8 h9 H locs hw hR => ?_)
      try dsimp only at hw
      obtain ⟨t12, hw⟩ := hw
      refine mx_cast (ci := 7) (C := "NetJoins$Wire") (T := F_Wire) (N := 7) hx hb hW hown hK.1 hR rfl kw_259 t12 d_NJ_touchAnew_28 ?_
      obtain ⟨a13, ea13, t14, hw⟩ := hw
      refine mx_get (ci := 7) (C := "NetJoins$Wire") (T := F_Wire) (N := 7) hx hb hW hown hK.1 hR (a := a13) ea13 t14 rfl i_Wire 6 0 (by decide) rfl kw_658 (fun _ h9 => h9) d_NJ_touchAnew_31 ?_
      refine lv_if_ne (tgt := 52) hx hb d_NJ_touchAnew_34 (by decide) (fun c15 => ?_) (fun c15 => ?_)
      · have hw := hw.1 c15
        exact mn_NJ_touchAnew_52 C post (lpF (wb_NJ_touchAnew_9 Z post v0) n) ih x1 _ _ _ _ hw (lv_sub hl [0, 1] rfl) hR
      · have hw := hw.2 c15
        refine mx_aload_n (r := some v0) hx hb d_NJ_touchAnew_37 rfl (lv_at hl 0 rfl) ?_
        refine mx_aload_n (r := some v0) hx hb d_NJ_touchAnew_38 rfl (lv_at hl 0 rfl) ?_
        obtain ⟨t16, hw⟩ := hw
        refine mx_get (ci := 0) (C := "NetJoins") (T := F_NJ) (N := 18) hx hb hW hown hK.1 hR (a := v0) rfl t16 rfl i_NJ 1 2 (by decide) rfl kw_121 (fun _ h9 => h9) d_NJ_touchAnew_39 ?_
        refine lv_iload_n hx hb d_NJ_touchAnew_42 rfl (lv_at hl 1 rfl) ?_
        obtain ⟨a19, ea19, t20, hw⟩ := hw
        refine W.eq (g2 := F0 m 43 ls [.int x1, va_rf (some a19), va_rf (some v0)]) (by rw [← ea19] <;> rfl) ?_
        refine mx_callr (va_runV (b := a19) (As := [.int x1]) (rest := [va_rf (some v0)]) ⟨hx, hb, hml, hown, hW⟩ (mt_AL_get l D cs Z _ hw) (mx_cwV hW ok_AL_get kw_196 rfl rfl ⟨Nat.le_of_ble_eq_true rfl, Nat.le_of_ble_eq_true rfl⟩) (mx_preV hK hZ hA hR (ci := 9) rfl t20) rfl rfl hl.1 rfl (lv_room (Nat.le_of_ble_eq_true rfl)) d_NJ_touchAnew_43 ⟨Nat.le_of_ble_eq_true rfl, Nat.le_of_ble_eq_true rfl⟩) hR hA (fun r17 h18 H locs hw hR => ?_)
        try dsimp only at hw
        obtain ⟨t21, hw⟩ := hw
        refine mx_cast (ci := 7) (C := "NetJoins$Wire") (T := F_Wire) (N := 7) hx hb hW hown hK.1 hR rfl kw_259 t21 d_NJ_touchAnew_46 ?_
        obtain ⟨t24, hw⟩ := hw
        refine mx_callv (va_runV (b := v0) (As := [va_rf r17]) (rest := []) ⟨hx, hb, hml, hown, hW⟩ (mt_NJ_joinEnds l D cs Z _ hw) (mx_cwV hW ok_NJ_joinEnds kw_310 rfl rfl ⟨Nat.le_of_ble_eq_true rfl, Nat.le_of_ble_eq_true rfl⟩) (mx_preV hK hZ hA hR (ci := 0) rfl t24) rfl rfl hl.1 rfl (lv_room (Nat.le_of_ble_eq_true rfl)) d_NJ_touchAnew_49 ⟨Nat.le_of_ble_eq_true rfl, Nat.le_of_ble_eq_true rfl⟩) hR hA (fun h23 H locs hw hR => ?_)
        try dsimp only at hw
        exact mn_NJ_touchAnew_52 C post (lpF (wb_NJ_touchAnew_9 Z post v0) n) ih x1 _ _ _ _ hw (lv_sub hl [0, 1] rfl) hR
set_option maxHeartbeats 4000000 in
set_option maxRecDepth 100000 in
theorem mt_NJ_touchAnew (l : Launch) (D : va_G) (cs : CS) (Z : Nat → Nat) (sz : Nat) {post : HS → Prop} {h : HS} {v0 : Nat}  (hw : wp_NJ_touchAnew Z post h v0 ) : Met l y_NJ_touchAnew (Cond.code y_NJ_touchAnew c_NJ_touchAnew 2 none :: WA) ({ frames := 7, cells := 0, slots := 0, locals := 210 } : Room) (mPc D cs Z h sz [va_rf (some v0)]) (va_Qv post (mB D cs h sz) (fA h sz)) 0 0 (fA h sz) := by
  refine mx_met (fun sz => va_Qv post (mB D cs h sz) (fA h sz)) (by decide) (by simp [lg_sl, mx_rf_cat, cat_i, cat_l]) ?_
  intro p e s m args below meth c C hR ls hl
  have hl : lv_has ls 2 [(0, va_rf (some v0))] := hl
  obtain ⟨hx, hb, hr, hml, hown, hW, hlocks, hnm, hK, hZ⟩ := id C
  have hown : s.vm.findClass "NetJoins" = some m.cls := hown
  have hA : ∀ q, s.heap.size ≤ q → fA h s.heap.size q := fun _ h => Or.inr h
  unfold wp_NJ_touchAnew at hw
  refine mx_aload_n (r := some v0) hx hb d_NJ_touchAnew_0 rfl (lv_at hl 0 rfl) ?_
  obtain ⟨t1, hw⟩ := hw
  refine mx_get (ci := 0) (C := "NetJoins") (T := F_NJ) (N := 18) hx hb hW hown hK.1 hR (a := v0) rfl t1 rfl i_NJ 9 2 (by decide) rfl kw_129 (fun _ h9 => h9) d_NJ_touchAnew_1 ?_
  obtain ⟨a4, ea4, t5, hw⟩ := hw
  refine W.eq (g2 := F0 m 4 ls [va_rf (some a4)]) (by rw [← ea4] <;> rfl) ?_
  refine mx_callv (va_runV (b := a4) (As := []) (rest := []) ⟨hx, hb, hml, hown, hW⟩ (mt_Joins_scatter l D cs Z _ hw) (mx_cwV hW ok_Joins_scatter kw_306 rfl rfl ⟨Nat.le_of_ble_eq_true rfl, Nat.le_of_ble_eq_true rfl⟩) (mx_preV hK hZ hA hR (ci := 2) rfl t5) rfl rfl hl.1 rfl (lv_room (Nat.le_of_ble_eq_true rfl)) d_NJ_touchAnew_4 ⟨Nat.le_of_ble_eq_true rfl, Nat.le_of_ble_eq_true rfl⟩) hR hA (fun h3 H locs hw hR => ?_)
  try dsimp only at hw
  refine lv_iconst (v := 0) hx hb d_NJ_touchAnew_7 (by decide) ?_
  refine lv_istore_n (i := 1) (lv' := [(1, .int (0 : Int32)), (0, va_rf (some v0))]) hx hb d_NJ_touchAnew_8 rfl hl (by decide) rfl (fun ls hl => ?_)
  obtain ⟨n9, hw⟩ := hw
  exact mn_NJ_touchAnew_9 C post n9 (0 : Int32) _ _ _ _ hw (lv_sub hl [1, 0] rfl) hR
set_option maxHeartbeats 4000000 in
set_option maxRecDepth 100000 in
theorem mt_NJ_nodeOn (l : Launch) (D : va_G) (cs : CS) (Z : Nat → Nat) (sz : Nat) {post : Int32 → HS → Prop} {h : HS} {v0 : Nat} {x1 : Option Nat} {x2 : Int32} (hw : wp_NJ_nodeOn Z post h v0 x1 x2) : Met l y_NJ_nodeOn (Cond.code y_NJ_nodeOn c_NJ_nodeOn 4 (some .int) :: WA) ({ frames := 5, cells := 0, slots := 0, locals := 164 } : Room) (mPc D cs Z h sz [va_rf (some v0), va_rf x1, .int x2]) (va_Qi post (mB D cs h sz) (fA h sz)) 0 0 (fA h sz) := by
  refine mx_met (fun sz => va_Qi post (mB D cs h sz) (fA h sz)) (by decide) (by simp [lg_sl, mx_rf_cat, cat_i, cat_l]) ?_
  intro p e s m args below meth c C hR ls hl
  have hl : lv_has ls 4 [(0, va_rf (some v0)), (1, va_rf x1), (2, .int x2)] := by simpa [lv_args, mx_rf_cat, cat_i, cat_l] using hl
  obtain ⟨hx, hb, hr, hml, hown, hW, hlocks, hnm, hK, hZ⟩ := id C
  have hown : s.vm.findClass "NetJoins" = some m.cls := hown
  have hA : ∀ q, s.heap.size ≤ q → fA h s.heap.size q := fun _ h => Or.inr h
  unfold wp_NJ_nodeOn at hw
  refine lv_iload_n hx hb d_NJ_nodeOn_0 rfl (lv_at hl 2 rfl) ?_
  refine lv_bipush (v := 60) hx hb d_NJ_nodeOn_1 (by decide) ?_
  refine lv_icmp_ge (tgt := 15) hx hb d_NJ_nodeOn_3 (by decide) (fun c1 => ?_) (fun c1 => ?_)
  · have hw := hw.1 c1
    refine lv_iload_n hx hb d_NJ_nodeOn_15 rfl (lv_at hl 2 rfl) ?_
    refine lv_bipush (v := 60) hx hb d_NJ_nodeOn_16 (by decide) ?_
    refine lv_isub hx hb d_NJ_nodeOn_18 ?_
    refine lv_topi (fun y2 ey2 => ?_)
    have hw := hw y2 ey2
    refine lv_istore_n (i := 3) (lv' := [(3, .int y2), (0, va_rf (some v0)), (1, va_rf x1), (2, .int x2)]) hx hb d_NJ_nodeOn_19 rfl hl (by decide) rfl (fun ls hl => ?_)
    refine lv_iload_n hx hb d_NJ_nodeOn_20 rfl (lv_at hl 0 rfl) ?_
    refine mx_aload_n (r := some v0) hx hb d_NJ_nodeOn_21 rfl (lv_at hl 1 rfl) ?_
    obtain ⟨t3, hw⟩ := hw
    refine mx_get (ci := 0) (C := "NetJoins") (T := F_NJ) (N := 18) hx hb hW hown hK.1 hR (a := v0) rfl t3 rfl i_NJ 3 2 (by decide) rfl kw_123 (fun _ h9 => h9) d_NJ_nodeOn_22 ?_
    obtain ⟨a6, ea6, t7, hw⟩ := hw
    refine W.eq (g2 := F0 m 25 ls [va_rf (some a6), .int y2]) (by rw [← ea6] <;> rfl) ?_
    refine mx_calli (va_runV (b := a6) (As := []) (rest := [.int y2]) ⟨hx, hb, hml, hown, hW⟩ (mt_AL_size l D cs Z _ hw) (mx_cwV hW ok_AL_size kw_192 rfl rfl ⟨Nat.le_of_ble_eq_true rfl, Nat.le_of_ble_eq_true rfl⟩) (mx_preV hK hZ hA hR (ci := 9) rfl t7) rfl rfl hl.1 rfl (lv_room (Nat.le_of_ble_eq_true rfl)) d_NJ_nodeOn_25 ⟨Nat.le_of_ble_eq_true rfl, Nat.le_of_ble_eq_true rfl⟩) hR hA (fun r4 h5 H locs hw hR => ?_)
    try dsimp only at hw
    refine lv_icmp_ge (tgt := 55) hx hb d_NJ_nodeOn_28 (by decide) (fun c8 => ?_) (fun c8 => ?_)
    · have hw := hw.1 c8
      refine lv_iconst (v := (-1)) hx hb d_NJ_nodeOn_55 (by decide) ?_
      exact mx_iret hx hb hr hlocks hR hw d_NJ_nodeOn_56
    · have hw := hw.2 c8
      refine mx_aload_n (r := x1) hx hb d_NJ_nodeOn_31 rfl (lv_at hl 2 rfl) ?_
      obtain ⟨a9, ea9, t10, hw⟩ := hw
      refine mx_get (ci := 5) (C := "NetJoins$Sheet") (T := F_Sheet) (N := 5) hx hb hW hown hK.1 hR (a := a9) ea9 t10 rfl i_Sheet 0 0 (by decide) rfl kw_522 (fun _ h9 => h9) d_NJ_nodeOn_32 ?_
      refine mx_aload_n (r := some v0) hx hb d_NJ_nodeOn_35 rfl (lv_at hl 1 rfl) ?_
      obtain ⟨t11, hw⟩ := hw
      refine mx_get (ci := 0) (C := "NetJoins") (T := F_NJ) (N := 18) hx hb hW hown hK.1 hR (a := v0) rfl t11 rfl i_NJ 3 2 (by decide) rfl kw_123 (fun _ h9 => h9) d_NJ_nodeOn_36 ?_
      refine lv_iload_n hx hb d_NJ_nodeOn_39 rfl (lv_at hl 0 rfl) ?_
      obtain ⟨a14, ea14, t15, hw⟩ := hw
      refine W.eq (g2 := F0 m 40 ls [.int y2, va_rf (some a14), .int (gI h5 500 a9)]) (by rw [← ea14] <;> rfl) ?_
      refine mx_callr (va_runV (b := a14) (As := [.int y2]) (rest := [.int (gI h5 500 a9)]) ⟨hx, hb, hml, hown, hW⟩ (mt_AL_get l D cs Z _ hw) (mx_cwV hW ok_AL_get kw_196 rfl rfl ⟨Nat.le_of_ble_eq_true rfl, Nat.le_of_ble_eq_true rfl⟩) (mx_preV hK hZ hA hR (ci := 9) rfl t15) rfl rfl hl.1 rfl (lv_room (Nat.le_of_ble_eq_true rfl)) d_NJ_nodeOn_40 ⟨Nat.le_of_ble_eq_true rfl, Nat.le_of_ble_eq_true rfl⟩) hR hA (fun r12 h13 H locs hw hR => ?_)
      try dsimp only at hw
      obtain ⟨t16, hw⟩ := hw
      refine mx_cast (ci := 6) (C := "NetJoins$Spot") (T := F_Spot) (N := 6) hx hb hW hown hK.1 hR rfl kw_210 t16 d_NJ_nodeOn_43 ?_
      obtain ⟨a17, ea17, t18, hw⟩ := hw
      refine mx_get (ci := 6) (C := "NetJoins$Spot") (T := F_Spot) (N := 6) hx hb hW hown hK.1 hR (a := a17) ea17 t18 rfl i_Spot 3 0 (by decide) rfl kw_708 (fun _ h9 => h9) d_NJ_nodeOn_46 ?_
      refine mx_calli (va_runS (As := [.int (gI h5 500 a9), .int (gI h13 603 a17)]) (rest := []) ⟨hx, hb, hml, hown, hW⟩ (mt_NJ_nameNode l D cs Z _ hw) (mx_cwS hW ok_NJ_nameNode kw_216 rfl rfl ⟨Nat.le_of_ble_eq_true rfl, Nat.le_of_ble_eq_true rfl⟩) (mx_preS hK hZ hA hR) rfl rfl hl.1 rfl (lv_room (Nat.le_of_ble_eq_true rfl)) d_NJ_nodeOn_49 ⟨Nat.le_of_ble_eq_true rfl, Nat.le_of_ble_eq_true rfl⟩) hR hA (fun r19 h20 H locs hw hR => ?_)
      try dsimp only at hw
      refine lv_goto (tgt := 56) hx hb d_NJ_nodeOn_52 (by decide) ?_
      exact mx_iret hx hb hr hlocks hR hw d_NJ_nodeOn_56
  · have hw := hw.2 c1
    refine lv_iload_n hx hb d_NJ_nodeOn_6 rfl (lv_at hl 2 rfl) ?_
    refine mx_aload_n (r := x1) hx hb d_NJ_nodeOn_7 rfl (lv_at hl 1 rfl) ?_
    obtain ⟨a21, ea21, t22, hw⟩ := hw
    refine mx_get (ci := 5) (C := "NetJoins$Sheet") (T := F_Sheet) (N := 5) hx hb hW hown hK.1 hR (a := a21) ea21 t22 rfl i_Sheet 3 0 (by decide) rfl kw_528 (fun _ h9 => h9) d_NJ_nodeOn_8 ?_
    refine mx_calli (va_runS (As := [.int x2, .int (gI h 503 a21)]) (rest := []) ⟨hx, hb, hml, hown, hW⟩ (mt_NJ_pinNode l D cs Z _ hw) (mx_cwS hW ok_NJ_pinNode kw_283 rfl rfl ⟨Nat.le_of_ble_eq_true rfl, Nat.le_of_ble_eq_true rfl⟩) (mx_preS hK hZ hA hR) rfl rfl hl.1 rfl (lv_room (Nat.le_of_ble_eq_true rfl)) d_NJ_nodeOn_11 ⟨Nat.le_of_ble_eq_true rfl, Nat.le_of_ble_eq_true rfl⟩) hR hA (fun r23 h24 H locs hw hR => ?_)
    try dsimp only at hw
    exact mx_iret hx hb hr hlocks hR hw d_NJ_nodeOn_14
set_option maxHeartbeats 4000000 in
set_option maxRecDepth 100000 in
theorem mn_NJ_spreadSpots_66 {D : va_G} {cs : CS} {Z : Nat → Nat} {h0 : HS} {p : Program} {l : Launch} {e : Env} {s : State} {m : MethodId} {args : Array Value} {below : List Frame} {meth : Method} {c : Code} {v0 : Nat} (C : mC D cs Z h0 y_NJ_spreadSpots c_NJ_spreadSpots 5 none p s m args meth c) (post : HS → Prop) (K2 : Option Nat × Option Nat × Int32 × HS → Prop) (hK2 : ∀ (x1 : Option Nat) (x2 : Option Nat) (x3 : Int32) (h : HS) (H : Heap) (locs : List Loc) (ls : Array Slot), K2 (x1, x2, x3, h) → lv_has ls 5 [(0, va_rf (some v0)), (1, va_rf x1), (2, va_rf x2), (3, .int x3)] → mR D cs (fA h0 s.heap.size) h s.heap H locs → W p l e ({ frames := 6, cells := 0, slots := 0, locals := 187 } : Room) s m args below meth c H locs 0 0 (MQ below (va_Qv post (mB D cs h0 s.heap.size) (fA h0 s.heap.size)) args s 0 0 (fA h0 s.heap.size)) (F0 m 2 ls [])) : ∀ (x1 : Option Nat) (x2 : Option Nat) (x3 : Int32) (h : HS) (H : Heap) (locs : List Loc) (ls : Array Slot), wj_NJ_spreadSpots_66 Z post K2 v0 x1 x2 x3 h → lv_has ls 5 [(0, va_rf (some v0)), (1, va_rf x1), (2, va_rf x2), (3, .int x3)] → mR D cs (fA h0 s.heap.size) h s.heap H locs → W p l e ({ frames := 6, cells := 0, slots := 0, locals := 187 } : Room) s m args below meth c H locs 0 0 (MQ below (va_Qv post (mB D cs h0 s.heap.size) (fA h0 s.heap.size)) args s 0 0 (fA h0 s.heap.size)) (F0 m 66 ls []) := by
  obtain ⟨hx, hb, hr, hml, hown, hW, hlocks, hnm, hK, hZ⟩ := id C
  have hown : s.vm.findClass "NetJoins" = some m.cls := hown
  have hA : ∀ q, s.heap.size ≤ q → fA h0 s.heap.size q := fun _ h => Or.inr h
  intro x1 x2 x3 h H locs ls hw hl hR
  unfold wj_NJ_spreadSpots_66 at hw
  obtain ⟨y1, ey1⟩ : ∃ y : Int32, y = x3 + (1 : Int32) := ⟨_, rfl⟩
  have hw := hw y1 ey1
  refine lv_iinc (v := y1) (lv' := [(3, .int y1), (0, va_rf (some v0)), (1, va_rf x1), (2, va_rf x2)]) hx hb d_NJ_spreadSpots_66 hl (k := 3) rfl (by rw [ey1]; rfl) (by decide) (by simp [mx_rf_cat]) (fun ls hl => ?_)
  refine lv_goto (tgt := 2) hx hb d_NJ_spreadSpots_69 (by decide) ?_
  exact hK2 x1 x2 y1 _ _ _ _ hw (lv_sub hl [1, 2, 3, 0] rfl) hR
set_option maxHeartbeats 4000000 in
set_option maxRecDepth 100000 in
theorem mn_NJ_spreadSpots_2 {D : va_G} {cs : CS} {Z : Nat → Nat} {h0 : HS} {p : Program} {l : Launch} {e : Env} {s : State} {m : MethodId} {args : Array Value} {below : List Frame} {meth : Method} {c : Code} {v0 : Nat} (C : mC D cs Z h0 y_NJ_spreadSpots c_NJ_spreadSpots 5 none p s m args meth c) (post : HS → Prop) : ∀ (n : Nat) (x1 : Option Nat) (x2 : Option Nat) (x3 : Int32) (h : HS) (H : Heap) (locs : List Loc) (ls : Array Slot), lpF (wb_NJ_spreadSpots_2 Z post v0) n (x1, x2, x3, h) → lv_has ls 5 [(0, va_rf (some v0)), (1, va_rf x1), (2, va_rf x2), (3, .int x3)] → mR D cs (fA h0 s.heap.size) h s.heap H locs → W p l e ({ frames := 6, cells := 0, slots := 0, locals := 187 } : Room) s m args below meth c H locs 0 0 (MQ below (va_Qv post (mB D cs h0 s.heap.size) (fA h0 s.heap.size)) args s 0 0 (fA h0 s.heap.size)) (F0 m 2 ls []) := by
  obtain ⟨hx, hb, hr, hml, hown, hW, hlocks, hnm, hK, hZ⟩ := id C
  have hown : s.vm.findClass "NetJoins" = some m.cls := hown
  have hA : ∀ q, s.heap.size ≤ q → fA h0 s.heap.size q := fun _ h => Or.inr h
  intro n
  induction n with
  | zero => intro x1 x2 x3 h H locs ls hw; exact hw.elim
  | succ n ih =>
    intro x1 x2 x3 h H locs ls hw hl hR
    have hw : wb_NJ_spreadSpots_2 Z post v0 (lpF (wb_NJ_spreadSpots_2 Z post v0) n) (x1, x2, x3, h) := hw
    unfold wb_NJ_spreadSpots_2 at hw
    dsimp only at hw
    refine lv_iload_n hx hb d_NJ_spreadSpots_2 rfl (lv_at hl 3 rfl) ?_
    refine mx_aload_n (r := x2) hx hb d_NJ_spreadSpots_3 rfl (lv_at hl 2 rfl) ?_
    obtain ⟨a3, ea3, t4, hw⟩ := hw
    refine W.eq (g2 := F0 m 4 ls [va_rf (some a3), .int x3]) (by rw [← ea3] <;> rfl) ?_
    refine mx_calli (va_runV (b := a3) (As := []) (rest := [.int x3]) ⟨hx, hb, hml, hown, hW⟩ (mt_AL_size l D cs Z _ hw) (mx_cwV hW ok_AL_size kw_192 rfl rfl ⟨Nat.le_of_ble_eq_true rfl, Nat.le_of_ble_eq_true rfl⟩) (mx_preV hK hZ hA hR (ci := 9) rfl t4) rfl rfl hl.1 rfl (lv_room (Nat.le_of_ble_eq_true rfl)) d_NJ_spreadSpots_4 ⟨Nat.le_of_ble_eq_true rfl, Nat.le_of_ble_eq_true rfl⟩) hR hA (fun r1 h2 H locs hw hR => ?_)
    try dsimp only at hw
    refine lv_icmp_ge (tgt := 72) hx hb d_NJ_spreadSpots_7 (by decide) (fun c5 => ?_) (fun c5 => ?_)
    · have hw := hw.1 c5
      exact mx_vret hx hb hr hlocks hR hw d_NJ_spreadSpots_72
    · have hw := hw.2 c5
      refine mx_aload_n (r := x2) hx hb d_NJ_spreadSpots_10 rfl (lv_at hl 2 rfl) ?_
      refine lv_iload_n hx hb d_NJ_spreadSpots_11 rfl (lv_at hl 3 rfl) ?_
      obtain ⟨a8, ea8, t9, hw⟩ := hw
      refine W.eq (g2 := F0 m 12 ls [.int x3, va_rf (some a8)]) (by rw [← ea8] <;> rfl) ?_
      refine mx_callr (va_runV (b := a8) (As := [.int x3]) (rest := []) ⟨hx, hb, hml, hown, hW⟩ (mt_AL_get l D cs Z _ hw) (mx_cwV hW ok_AL_get kw_196 rfl rfl ⟨Nat.le_of_ble_eq_true rfl, Nat.le_of_ble_eq_true rfl⟩) (mx_preV hK hZ hA hR (ci := 9) rfl t9) rfl rfl hl.1 rfl (lv_room (Nat.le_of_ble_eq_true rfl)) d_NJ_spreadSpots_12 ⟨Nat.le_of_ble_eq_true rfl, Nat.le_of_ble_eq_true rfl⟩) hR hA (fun r6 h7 H locs hw hR => ?_)
      try dsimp only at hw
      obtain ⟨t10, hw⟩ := hw
      refine mx_cast (ci := 6) (C := "NetJoins$Spot") (T := F_Spot) (N := 6) hx hb hW hown hK.1 hR rfl kw_210 t10 d_NJ_spreadSpots_15 ?_
      refine mx_astore (i := 4) (r := r6) (lv' := [(4, va_rf r6), (0, va_rf (some v0)), (1, va_rf x1), (2, va_rf x2), (3, .int x3)]) hx hb d_NJ_spreadSpots_18 hl (by decide) rfl (fun ls hl => ?_)
      refine mx_aload (r := r6) hx hb d_NJ_spreadSpots_20 (lv_at hl 0 rfl) ?_
      obtain ⟨a11, ea11, t12, hw⟩ := hw
      refine mx_get (ci := 6) (C := "NetJoins$Spot") (T := F_Spot) (N := 6) hx hb hW hown hK.1 hR (a := a11) ea11 t12 rfl i_Spot 0 0 (by decide) rfl kw_700 (fun _ h9 => h9) d_NJ_spreadSpots_22 ?_
      refine mx_aload_n (r := x1) hx hb d_NJ_spreadSpots_25 rfl (lv_at hl 2 rfl) ?_
      obtain ⟨a13, ea13, t14, hw⟩ := hw
      refine mx_get (ci := 5) (C := "NetJoins$Sheet") (T := F_Sheet) (N := 5) hx hb hW hown hK.1 hR (a := a13) ea13 t14 rfl i_Sheet 2 0 (by decide) rfl kw_526 (fun _ h9 => h9) d_NJ_spreadSpots_26 ?_
      refine lv_icmp_ne (tgt := 66) hx hb d_NJ_spreadSpots_29 (by decide) (fun c15 => ?_) (fun c15 => ?_)
      · have hw := hw.1 c15
        exact mn_NJ_spreadSpots_66 C post (lpF (wb_NJ_spreadSpots_2 Z post v0) n) ih x1 x2 x3 _ _ _ _ hw (lv_sub hl [1, 2, 3, 4] rfl) hR
      · have hw := hw.2 c15
        refine mx_aload_n (r := some v0) hx hb d_NJ_spreadSpots_32 rfl (lv_at hl 1 rfl) ?_
        obtain ⟨t16, hw⟩ := hw
        refine mx_get (ci := 0) (C := "NetJoins") (T := F_NJ) (N := 18) hx hb hW hown hK.1 hR (a := v0) rfl t16 rfl i_NJ 10 2 (by decide) rfl kw_130 (fun _ h9 => h9) d_NJ_spreadSpots_33 ?_
        refine mx_aload_n (r := some v0) hx hb d_NJ_spreadSpots_36 rfl (lv_at hl 1 rfl) ?_
        refine mx_aload_n (r := x1) hx hb d_NJ_spreadSpots_37 rfl (lv_at hl 2 rfl) ?_
        refine mx_aload (r := r6) hx hb d_NJ_spreadSpots_38 (lv_at hl 0 rfl) ?_
        obtain ⟨a17, ea17, t18, hw⟩ := hw
        refine mx_get (ci := 6) (C := "NetJoins$Spot") (T := F_Spot) (N := 6) hx hb hW hown hK.1 hR (a := a17) ea17 t18 rfl i_Spot 4 0 (by decide) rfl kw_710 (fun _ h9 => h9) d_NJ_spreadSpots_40 ?_
        obtain ⟨t21, hw⟩ := hw
        refine mx_calli (va_runV (b := v0) (As := [va_rf x1, .int (gI h7 604 a17)]) (rest := [va_rf (gR h7 10 v0)]) ⟨hx, hb, hml, hown, hW⟩ (mt_NJ_nodeOn l D cs Z _ hw) (mx_cwV hW ok_NJ_nodeOn kw_356 rfl rfl ⟨Nat.le_of_ble_eq_true rfl, Nat.le_of_ble_eq_true rfl⟩) (mx_preV hK hZ hA hR (ci := 0) rfl t21) rfl rfl hl.1 rfl (lv_room (by simp [mx_rf_cat, cat_i, cat_l])) d_NJ_spreadSpots_43 ⟨Nat.le_of_ble_eq_true rfl, Nat.le_of_ble_eq_true rfl⟩) hR hA (fun r19 h20 H locs hw hR => ?_)
        try dsimp only at hw
        refine mx_aload_n (r := some v0) hx hb d_NJ_spreadSpots_46 rfl (lv_at hl 1 rfl) ?_
        refine mx_aload_n (r := x1) hx hb d_NJ_spreadSpots_47 rfl (lv_at hl 2 rfl) ?_
        refine mx_aload_n (r := some v0) hx hb d_NJ_spreadSpots_48 rfl (lv_at hl 1 rfl) ?_
        obtain ⟨t22, hw⟩ := hw
        refine mx_get (ci := 0) (C := "NetJoins") (T := F_NJ) (N := 18) hx hb hW hown hK.1 hR (a := v0) rfl t22 rfl i_NJ 9 2 (by decide) rfl kw_129 (fun _ h9 => h9) d_NJ_spreadSpots_49 ?_
        refine mx_aload (r := r6) hx hb d_NJ_spreadSpots_52 (lv_at hl 0 rfl) ?_
        obtain ⟨a23, ea23, t24, hw⟩ := hw
        refine mx_get (ci := 6) (C := "NetJoins$Spot") (T := F_Spot) (N := 6) hx hb hW hown hK.1 hR (a := a23) ea23 t24 rfl i_Spot 4 0 (by decide) rfl kw_710 (fun _ h9 => h9) d_NJ_spreadSpots_54 ?_
        obtain ⟨a27, ea27, t28, hw⟩ := hw
        refine W.eq (g2 := F0 m 57 ls [.int (gI h20 604 a23), va_rf (some a27), va_rf x1, va_rf (some v0), .int r19, va_rf (gR h7 10 v0)]) (by rw [← ea27] <;> rfl) ?_
        refine mx_calli (va_runV (b := a27) (As := [.int (gI h20 604 a23)]) (rest := [va_rf x1, va_rf (some v0), .int r19, va_rf (gR h7 10 v0)]) ⟨hx, hb, hml, hown, hW⟩ (mt_Joins_root l D cs Z _ hw) (mx_cwV hW ok_Joins_root kw_223 rfl rfl ⟨Nat.le_of_ble_eq_true rfl, Nat.le_of_ble_eq_true rfl⟩) (mx_preV hK hZ hA hR (ci := 2) rfl t28) rfl rfl hl.1 rfl (lv_room (by simp [mx_rf_cat, cat_i, cat_l])) d_NJ_spreadSpots_57 ⟨Nat.le_of_ble_eq_true rfl, Nat.le_of_ble_eq_true rfl⟩) hR hA (fun r25 h26 H locs hw hR => ?_)
        try dsimp only at hw
        obtain ⟨t31, hw⟩ := hw
        refine mx_calli (va_runV (b := v0) (As := [va_rf x1, .int r25]) (rest := [.int r19, va_rf (gR h7 10 v0)]) ⟨hx, hb, hml, hown, hW⟩ (mt_NJ_nodeOn l D cs Z _ hw) (mx_cwV hW ok_NJ_nodeOn kw_356 rfl rfl ⟨Nat.le_of_ble_eq_true rfl, Nat.le_of_ble_eq_true rfl⟩) (mx_preV hK hZ hA hR (ci := 0) rfl t31) rfl rfl hl.1 rfl (lv_room (by simp [mx_rf_cat, cat_i, cat_l])) d_NJ_spreadSpots_60 ⟨Nat.le_of_ble_eq_true rfl, Nat.le_of_ble_eq_true rfl⟩) hR hA (fun r29 h30 H locs hw hR => ?_)
        try dsimp only at hw
        obtain ⟨a34, ea34, t35, hw⟩ := hw
        refine W.eq (g2 := F0 m 63 ls [.int r29, .int r19, va_rf (some a34)]) (by rw [← ea34] <;> rfl) ?_
        refine mx_callv (va_runV (b := a34) (As := [.int r19, .int r29]) (rest := []) ⟨hx, hb, hml, hown, hW⟩ (mt_Joins_join l D cs Z _ hw) (mx_cwV hW ok_Joins_join kw_326 rfl rfl ⟨Nat.le_of_ble_eq_true rfl, Nat.le_of_ble_eq_true rfl⟩) (mx_preV hK hZ hA hR (ci := 2) rfl t35) rfl rfl hl.1 rfl (lv_room (Nat.le_of_ble_eq_true rfl)) d_NJ_spreadSpots_63 ⟨Nat.le_of_ble_eq_true rfl, Nat.le_of_ble_eq_true rfl⟩) hR hA (fun h33 H locs hw hR => ?_)
        try dsimp only at hw
        exact mn_NJ_spreadSpots_66 C post (lpF (wb_NJ_spreadSpots_2 Z post v0) n) ih x1 x2 x3 _ _ _ _ hw (lv_sub hl [1, 2, 3, 4] rfl) hR
set_option maxHeartbeats 4000000 in
set_option maxRecDepth 100000 in
theorem mt_NJ_spreadSpots (l : Launch) (D : va_G) (cs : CS) (Z : Nat → Nat) (sz : Nat) {post : HS → Prop} {h : HS} {v0 : Nat} {x1 : Option Nat} {x2 : Option Nat} (hw : wp_NJ_spreadSpots Z post h v0 x1 x2) : Met l y_NJ_spreadSpots (Cond.code y_NJ_spreadSpots c_NJ_spreadSpots 5 none :: WA) ({ frames := 6, cells := 0, slots := 0, locals := 187 } : Room) (mPc D cs Z h sz [va_rf (some v0), va_rf x1, va_rf x2]) (va_Qv post (mB D cs h sz) (fA h sz)) 0 0 (fA h sz) := by
  refine mx_met (fun sz => va_Qv post (mB D cs h sz) (fA h sz)) (by decide) (by simp [lg_sl, mx_rf_cat, cat_i, cat_l]) ?_
  intro p e s m args below meth c C hR ls hl
  have hl : lv_has ls 5 [(0, va_rf (some v0)), (1, va_rf x1), (2, va_rf x2)] := by simpa [lv_args, mx_rf_cat, cat_i, cat_l] using hl
  obtain ⟨hx, hb, hr, hml, hown, hW, hlocks, hnm, hK, hZ⟩ := id C
  have hown : s.vm.findClass "NetJoins" = some m.cls := hown
  have hA : ∀ q, s.heap.size ≤ q → fA h s.heap.size q := fun _ h => Or.inr h
  unfold wp_NJ_spreadSpots at hw
  refine lv_iconst (v := 0) hx hb d_NJ_spreadSpots_0 (by decide) ?_
  refine lv_istore_n (i := 3) (lv' := [(3, .int (0 : Int32)), (0, va_rf (some v0)), (1, va_rf x1), (2, va_rf x2)]) hx hb d_NJ_spreadSpots_1 rfl hl (by decide) (by simp [mx_rf_cat]) (fun ls hl => ?_)
  obtain ⟨n9, hw⟩ := hw
  exact mn_NJ_spreadSpots_2 C post n9 x1 x2 (0 : Int32) _ _ _ _ hw (lv_sub hl [1, 2, 3, 0] rfl) hR
set_option maxHeartbeats 4000000 in
set_option maxRecDepth 100000 in
theorem mt_NJ_spreadOn (l : Launch) (D : va_G) (cs : CS) (Z : Nat → Nat) (sz : Nat) {post : HS → Prop} {h : HS} {v0 : Nat} {x1 : Option Nat} (hw : wp_NJ_spreadOn Z post h v0 x1) : Met l y_NJ_spreadOn (Cond.code y_NJ_spreadOn c_NJ_spreadOn 2 none :: WA) ({ frames := 7, cells := 0, slots := 0, locals := 211 } : Room) (mPc D cs Z h sz [va_rf (some v0), va_rf x1]) (va_Qv post (mB D cs h sz) (fA h sz)) 0 0 (fA h sz) := by
  refine mx_met (fun sz => va_Qv post (mB D cs h sz) (fA h sz)) (by decide) (by simp [lg_sl, mx_rf_cat, cat_i, cat_l]) ?_
  intro p e s m args below meth c C hR ls hl
  have hl : lv_has ls 2 [(0, va_rf (some v0)), (1, va_rf x1)] := by simpa [lv_args, mx_rf_cat, cat_i, cat_l] using hl
  obtain ⟨hx, hb, hr, hml, hown, hW, hlocks, hnm, hK, hZ⟩ := id C
  have hown : s.vm.findClass "NetJoins" = some m.cls := hown
  have hA : ∀ q, s.heap.size ≤ q → fA h s.heap.size q := fun _ h => Or.inr h
  unfold wp_NJ_spreadOn at hw
  refine mx_aload_n (r := some v0) hx hb d_NJ_spreadOn_0 rfl (lv_at hl 0 rfl) ?_
  refine mx_aload_n (r := x1) hx hb d_NJ_spreadOn_1 rfl (lv_at hl 1 rfl) ?_
  refine mx_aload_n (r := some v0) hx hb d_NJ_spreadOn_2 rfl (lv_at hl 0 rfl) ?_
  obtain ⟨t1, hw⟩ := hw
  refine mx_get (ci := 0) (C := "NetJoins") (T := F_NJ) (N := 18) hx hb hW hown hK.1 hR (a := v0) rfl t1 rfl i_NJ 5 2 (by decide) rfl kw_125 (fun _ h9 => h9) d_NJ_spreadOn_3 ?_
  obtain ⟨t4, hw⟩ := hw
  refine mx_callv (va_runV (b := v0) (As := [va_rf x1, va_rf (gR h 5 v0)]) (rest := []) ⟨hx, hb, hml, hown, hW⟩ (mt_NJ_spreadSpots l D cs Z _ hw) (mx_cwV hW ok_NJ_spreadSpots kw_352 rfl rfl ⟨Nat.le_of_ble_eq_true rfl, Nat.le_of_ble_eq_true rfl⟩) (mx_preV hK hZ hA hR (ci := 0) rfl t4) rfl rfl hl.1 rfl (lv_room (Nat.le_of_ble_eq_true rfl)) d_NJ_spreadOn_6 ⟨Nat.le_of_ble_eq_true rfl, Nat.le_of_ble_eq_true rfl⟩) hR hA (fun h3 H locs hw hR => ?_)
  try dsimp only at hw
  refine mx_aload_n (r := some v0) hx hb d_NJ_spreadOn_9 rfl (lv_at hl 0 rfl) ?_
  refine mx_aload_n (r := x1) hx hb d_NJ_spreadOn_10 rfl (lv_at hl 1 rfl) ?_
  refine mx_aload_n (r := some v0) hx hb d_NJ_spreadOn_11 rfl (lv_at hl 0 rfl) ?_
  obtain ⟨t5, hw⟩ := hw
  refine mx_get (ci := 0) (C := "NetJoins") (T := F_NJ) (N := 18) hx hb hW hown hK.1 hR (a := v0) rfl t5 rfl i_NJ 3 2 (by decide) rfl kw_123 (fun _ h9 => h9) d_NJ_spreadOn_12 ?_
  obtain ⟨t8, hw⟩ := hw
  refine mx_callv (va_runV (b := v0) (As := [va_rf x1, va_rf (gR h3 3 v0)]) (rest := []) ⟨hx, hb, hml, hown, hW⟩ (mt_NJ_spreadSpots l D cs Z _ hw) (mx_cwV hW ok_NJ_spreadSpots kw_352 rfl rfl ⟨Nat.le_of_ble_eq_true rfl, Nat.le_of_ble_eq_true rfl⟩) (mx_preV hK hZ hA hR (ci := 0) rfl t8) rfl rfl hl.1 rfl (lv_room (Nat.le_of_ble_eq_true rfl)) d_NJ_spreadOn_15 ⟨Nat.le_of_ble_eq_true rfl, Nat.le_of_ble_eq_true rfl⟩) hR hA (fun h7 H locs hw hR => ?_)
  try dsimp only at hw
  exact mx_vret hx hb hr hlocks hR hw d_NJ_spreadOn_18
set_option maxHeartbeats 4000000 in
set_option maxRecDepth 100000 in
theorem mn_NJ_joinMembers_16 {D : va_G} {cs : CS} {Z : Nat → Nat} {h0 : HS} {p : Program} {l : Launch} {e : Env} {s : State} {m : MethodId} {args : Array Value} {below : List Frame} {meth : Method} {c : Code} {v0 : Nat} (C : mC D cs Z h0 y_NJ_joinMembers c_NJ_joinMembers 7 none p s m args meth c) (post : HS → Prop) : ∀ (n : Nat) (x1 : Option Nat) (x2 : Int32) (x3 : Option Nat) (x4 : Int32) (x5 : Int32) (x6 : Int32) (h : HS) (H : Heap) (locs : List Loc) (ls : Array Slot), lpF (wb_NJ_joinMembers_16 Z post v0) n (x1, x2, x3, x4, x5, x6, h) → lv_has ls 7 [(0, va_rf (some v0)), (1, va_rf x1), (2, .int x2), (3, va_rf x3), (4, .int x4), (5, .int x5), (6, .int x6)] → mR D cs (fA h0 s.heap.size) h s.heap H locs → W p l e ({ frames := 4, cells := 0, slots := 0, locals := 151 } : Room) s m args below meth c H locs 0 0 (MQ below (va_Qv post (mB D cs h0 s.heap.size) (fA h0 s.heap.size)) args s 0 0 (fA h0 s.heap.size)) (F0 m 16 ls []) := by
  obtain ⟨hx, hb, hr, hml, hown, hW, hlocks, hnm, hK, hZ⟩ := id C
  have hown : s.vm.findClass "NetJoins" = some m.cls := hown
  have hA : ∀ q, s.heap.size ≤ q → fA h0 s.heap.size q := fun _ h => Or.inr h
  intro n
  induction n with
  | zero => intro x1 x2 x3 x4 x5 x6 h H locs ls hw; exact hw.elim
  | succ n ih =>
    intro x1 x2 x3 x4 x5 x6 h H locs ls hw hl hR
    have hw : wb_NJ_joinMembers_16 Z post v0 (lpF (wb_NJ_joinMembers_16 Z post v0) n) (x1, x2, x3, x4, x5, x6, h) := hw
    unfold wb_NJ_joinMembers_16 at hw
    dsimp only at hw
    refine lv_iload hx hb d_NJ_joinMembers_16 (lv_at hl 6 rfl) ?_
    refine lv_iload hx hb d_NJ_joinMembers_18 (lv_at hl 5 rfl) ?_
    refine lv_icmp_ge (tgt := 57) hx hb d_NJ_joinMembers_20 (by decide) (fun c1 => ?_) (fun c1 => ?_)
    · have hw := hw.1 c1
      exact mx_vret hx hb hr hlocks hR hw d_NJ_joinMembers_57
    · have hw := hw.2 c1
      refine mx_aload_n (r := some v0) hx hb d_NJ_joinMembers_23 rfl (lv_at hl 0 rfl) ?_
      obtain ⟨t2, hw⟩ := hw
      refine mx_get (ci := 0) (C := "NetJoins") (T := F_NJ) (N := 18) hx hb hW hown hK.1 hR (a := v0) rfl t2 rfl i_NJ 10 2 (by decide) rfl kw_130 (fun _ h9 => h9) d_NJ_joinMembers_24 ?_
      refine lv_iload_n hx hb d_NJ_joinMembers_27 rfl (lv_at hl 2 rfl) ?_
      refine mx_aload_n (r := x1) hx hb d_NJ_joinMembers_28 rfl (lv_at hl 1 rfl) ?_
      refine lv_iload hx hb d_NJ_joinMembers_29 (lv_at hl 6 rfl) ?_
      obtain ⟨a5, ea5, t6, hw⟩ := hw
      refine W.eq (g2 := F0 m 31 ls [.int x6, va_rf (some a5), .int x2, va_rf (gR h 10 v0)]) (by rw [← ea5] <;> rfl) ?_
      refine mx_calli (va_runV (b := a5) (As := [.int x6]) (rest := [.int x2, va_rf (gR h 10 v0)]) ⟨hx, hb, hml, hown, hW⟩ (mt_Bus_member l D cs Z _ hw) (mx_cwV hW ok_Bus_member kw_381 rfl rfl ⟨Nat.le_of_ble_eq_true rfl, Nat.le_of_ble_eq_true rfl⟩) (mx_preV hK hZ hA hR (ci := 1) rfl t6) rfl rfl hl.1 rfl (lv_room (by simp [mx_rf_cat, cat_i, cat_l])) d_NJ_joinMembers_31 ⟨Nat.le_of_ble_eq_true rfl, Nat.le_of_ble_eq_true rfl⟩) hR hA (fun r3 h4 H locs hw hR => ?_)
      try dsimp only at hw
      refine mx_calli (va_runS (As := [.int x2, .int r3]) (rest := [va_rf (gR h 10 v0)]) ⟨hx, hb, hml, hown, hW⟩ (mt_NJ_nameNode l D cs Z _ hw) (mx_cwS hW ok_NJ_nameNode kw_216 rfl rfl ⟨Nat.le_of_ble_eq_true rfl, Nat.le_of_ble_eq_true rfl⟩) (mx_preS hK hZ hA hR) rfl rfl hl.1 rfl (lv_room (by simp [mx_rf_cat, cat_i, cat_l])) d_NJ_joinMembers_34 ⟨Nat.le_of_ble_eq_true rfl, Nat.le_of_ble_eq_true rfl⟩) hR hA (fun r7 h8 H locs hw hR => ?_)
      try dsimp only at hw
      refine lv_iload hx hb d_NJ_joinMembers_37 (lv_at hl 4 rfl) ?_
      refine mx_aload_n (r := x3) hx hb d_NJ_joinMembers_39 rfl (lv_at hl 3 rfl) ?_
      refine lv_iload hx hb d_NJ_joinMembers_40 (lv_at hl 6 rfl) ?_
      obtain ⟨a11, ea11, t12, hw⟩ := hw
      refine W.eq (g2 := F0 m 42 ls [.int x6, va_rf (some a11), .int x4, .int r7, va_rf (gR h 10 v0)]) (by rw [← ea11] <;> rfl) ?_
      refine mx_calli (va_runV (b := a11) (As := [.int x6]) (rest := [.int x4, .int r7, va_rf (gR h 10 v0)]) ⟨hx, hb, hml, hown, hW⟩ (mt_Bus_member l D cs Z _ hw) (mx_cwV hW ok_Bus_member kw_381 rfl rfl ⟨Nat.le_of_ble_eq_true rfl, Nat.le_of_ble_eq_true rfl⟩) (mx_preV hK hZ hA hR (ci := 1) rfl t12) rfl rfl hl.1 rfl (lv_room (by simp [mx_rf_cat, cat_i, cat_l])) d_NJ_joinMembers_42 ⟨Nat.le_of_ble_eq_true rfl, Nat.le_of_ble_eq_true rfl⟩) hR hA (fun r9 h10 H locs hw hR => ?_)
      try dsimp only at hw
      refine mx_calli (va_runS (As := [.int x4, .int r9]) (rest := [.int r7, va_rf (gR h 10 v0)]) ⟨hx, hb, hml, hown, hW⟩ (mt_NJ_nameNode l D cs Z _ hw) (mx_cwS hW ok_NJ_nameNode kw_216 rfl rfl ⟨Nat.le_of_ble_eq_true rfl, Nat.le_of_ble_eq_true rfl⟩) (mx_preS hK hZ hA hR) rfl rfl hl.1 rfl (lv_room (by simp [mx_rf_cat, cat_i, cat_l])) d_NJ_joinMembers_45 ⟨Nat.le_of_ble_eq_true rfl, Nat.le_of_ble_eq_true rfl⟩) hR hA (fun r13 h14 H locs hw hR => ?_)
      try dsimp only at hw
      obtain ⟨a17, ea17, t18, hw⟩ := hw
      refine W.eq (g2 := F0 m 48 ls [.int r13, .int r7, va_rf (some a17)]) (by rw [← ea17] <;> rfl) ?_
      refine mx_callv (va_runV (b := a17) (As := [.int r7, .int r13]) (rest := []) ⟨hx, hb, hml, hown, hW⟩ (mt_Joins_join l D cs Z _ hw) (mx_cwV hW ok_Joins_join kw_326 rfl rfl ⟨Nat.le_of_ble_eq_true rfl, Nat.le_of_ble_eq_true rfl⟩) (mx_preV hK hZ hA hR (ci := 2) rfl t18) rfl rfl hl.1 rfl (lv_room (Nat.le_of_ble_eq_true rfl)) d_NJ_joinMembers_48 ⟨Nat.le_of_ble_eq_true rfl, Nat.le_of_ble_eq_true rfl⟩) hR hA (fun h16 H locs hw hR => ?_)
      try dsimp only at hw
      obtain ⟨y19, ey19⟩ : ∃ y : Int32, y = x6 + (1 : Int32) := ⟨_, rfl⟩
      have hw := hw y19 ey19
      refine lv_iinc (v := y19) (lv' := [(6, .int y19), (0, va_rf (some v0)), (1, va_rf x1), (2, .int x2), (3, va_rf x3), (4, .int x4), (5, .int x5)]) hx hb d_NJ_joinMembers_51 hl (k := 6) rfl (by rw [ey19]; rfl) (by decide) rfl (fun ls hl => ?_)
      refine lv_goto (tgt := 16) hx hb d_NJ_joinMembers_54 (by decide) ?_
      exact ih x1 x2 x3 x4 x5 y19 _ _ _ _ hw (lv_sub hl [1, 2, 3, 4, 5, 6, 0] rfl) hR
set_option maxHeartbeats 4000000 in
set_option maxRecDepth 100000 in
theorem mt_NJ_joinMembers (l : Launch) (D : va_G) (cs : CS) (Z : Nat → Nat) (sz : Nat) {post : HS → Prop} {h : HS} {v0 : Nat} {x1 : Option Nat} {x2 : Int32} {x3 : Option Nat} {x4 : Int32} (hw : wp_NJ_joinMembers Z post h v0 x1 x2 x3 x4) : Met l y_NJ_joinMembers (Cond.code y_NJ_joinMembers c_NJ_joinMembers 7 none :: WA) ({ frames := 4, cells := 0, slots := 0, locals := 151 } : Room) (mPc D cs Z h sz [va_rf (some v0), va_rf x1, .int x2, va_rf x3, .int x4]) (va_Qv post (mB D cs h sz) (fA h sz)) 0 0 (fA h sz) := by
  refine mx_met (fun sz => va_Qv post (mB D cs h sz) (fA h sz)) (by decide) (by simp [lg_sl, mx_rf_cat, cat_i, cat_l]) ?_
  intro p e s m args below meth c C hR ls hl
  have hl : lv_has ls 7 [(0, va_rf (some v0)), (1, va_rf x1), (2, .int x2), (3, va_rf x3), (4, .int x4)] := by simpa [lv_args, mx_rf_cat, cat_i, cat_l] using hl
  obtain ⟨hx, hb, hr, hml, hown, hW, hlocks, hnm, hK, hZ⟩ := id C
  have hown : s.vm.findClass "NetJoins" = some m.cls := hown
  have hA : ∀ q, s.heap.size ≤ q → fA h s.heap.size q := fun _ h => Or.inr h
  unfold wp_NJ_joinMembers at hw
  refine mx_aload_n (r := x1) hx hb d_NJ_joinMembers_0 rfl (lv_at hl 1 rfl) ?_
  obtain ⟨a3, ea3, t4, hw⟩ := hw
  refine W.eq (g2 := F0 m 1 ls [va_rf (some a3)]) (by rw [← ea3] <;> rfl) ?_
  refine mx_calli (va_runV (b := a3) (As := []) (rest := []) ⟨hx, hb, hml, hown, hW⟩ (mt_Bus_length l D cs Z _ hw) (mx_cwV hW ok_Bus_length kw_373 rfl rfl ⟨Nat.le_of_ble_eq_true rfl, Nat.le_of_ble_eq_true rfl⟩) (mx_preV hK hZ hA hR (ci := 1) rfl t4) rfl rfl hl.1 rfl (lv_room (Nat.le_of_ble_eq_true rfl)) d_NJ_joinMembers_1 ⟨Nat.le_of_ble_eq_true rfl, Nat.le_of_ble_eq_true rfl⟩) hR hA (fun r1 h2 H locs hw hR => ?_)
  try dsimp only at hw
  refine mx_aload_n (r := x3) hx hb d_NJ_joinMembers_4 rfl (lv_at hl 3 rfl) ?_
  obtain ⟨a7, ea7, t8, hw⟩ := hw
  refine W.eq (g2 := F0 m 5 ls [va_rf (some a7), .int r1]) (by rw [← ea7] <;> rfl) ?_
  refine mx_calli (va_runV (b := a7) (As := []) (rest := [.int r1]) ⟨hx, hb, hml, hown, hW⟩ (mt_Bus_length l D cs Z _ hw) (mx_cwV hW ok_Bus_length kw_373 rfl rfl ⟨Nat.le_of_ble_eq_true rfl, Nat.le_of_ble_eq_true rfl⟩) (mx_preV hK hZ hA hR (ci := 1) rfl t8) rfl rfl hl.1 rfl (lv_room (Nat.le_of_ble_eq_true rfl)) d_NJ_joinMembers_5 ⟨Nat.le_of_ble_eq_true rfl, Nat.le_of_ble_eq_true rfl⟩) hR hA (fun r5 h6 H locs hw hR => ?_)
  try dsimp only at hw
  refine va_mmin hx hb (by rw [hml]; exact hl.1.symm) hown (hW _ kw_380) (hW _ kw_331) (hW _ kw_18) (hW _ kw_332) (Nat.le_of_ble_eq_true rfl) (Nat.le_of_ble_eq_true rfl) (Nat.le_of_ble_eq_true rfl) (Nat.le_of_ble_eq_true rfl) d_NJ_joinMembers_8 ?_
  refine lv_topi (fun y9 ey9 => ?_)
  have hw := hw y9 ey9
  refine lv_istore (i := 5) (lv' := [(5, .int y9), (0, va_rf (some v0)), (1, va_rf x1), (2, .int x2), (3, va_rf x3), (4, .int x4)]) hx hb d_NJ_joinMembers_11 hl (by decide) rfl (fun ls hl => ?_)
  refine lv_iconst (v := 0) hx hb d_NJ_joinMembers_13 (by decide) ?_
  refine lv_istore (i := 6) (lv' := [(6, .int (0 : Int32)), (5, .int y9), (0, va_rf (some v0)), (1, va_rf x1), (2, .int x2), (3, va_rf x3), (4, .int x4)]) hx hb d_NJ_joinMembers_14 hl (by decide) rfl (fun ls hl => ?_)
  obtain ⟨n9, hw⟩ := hw
  exact mn_NJ_joinMembers_16 C post n9 x1 x2 x3 x4 y9 (0 : Int32) _ _ _ _ hw (lv_sub hl [2, 3, 4, 5, 6, 1, 0] rfl) hR
set_option maxHeartbeats 4000000 in
set_option maxRecDepth 100000 in
theorem mn_NJ_longestBefore_102 {D : va_G} {cs : CS} {Z : Nat → Nat} {h0 : HS} {p : Program} {l : Launch} {e : Env} {s : State} {m : MethodId} {args : Array Value} {below : List Frame} {meth : Method} {c : Code} {v0 : Nat} (C : mC D cs Z h0 y_NJ_longestBefore c_NJ_longestBefore 7 (some (.object "NetJoins$Bus")) p s m args meth c) (post : Option Nat → HS → Prop) (K17 : Int32 × Option Nat × Option Nat × Int32 × HS → Prop) (hK17 : ∀ (x1 : Int32) (x2 : Option Nat) (x3 : Option Nat) (x4 : Int32) (h : HS) (H : Heap) (locs : List Loc) (ls : Array Slot), K17 (x1, x2, x3, x4, h) → lv_has ls 7 [(0, va_rf (some v0)), (1, .int x1), (2, va_rf x2), (3, va_rf x3), (4, .int x4)] → mR D cs (fA h0 s.heap.size) h s.heap H locs → W p l e ({ frames := 5, cells := 0, slots := 0, locals := 164 } : Room) s m args below meth c H locs 0 0 (MQ below (va_Qq post (mB D cs h0 s.heap.size) (fA h0 s.heap.size)) args s 0 0 (fA h0 s.heap.size)) (F0 m 17 ls [])) : ∀ (x1 : Int32) (x2 : Option Nat) (x3 : Option Nat) (x4 : Int32) (h : HS) (H : Heap) (locs : List Loc) (ls : Array Slot), wj_NJ_longestBefore_102 Z post K17 v0 x1 x2 x3 x4 h → lv_has ls 7 [(0, va_rf (some v0)), (1, .int x1), (2, va_rf x2), (3, va_rf x3), (4, .int x4)] → mR D cs (fA h0 s.heap.size) h s.heap H locs → W p l e ({ frames := 5, cells := 0, slots := 0, locals := 164 } : Room) s m args below meth c H locs 0 0 (MQ below (va_Qq post (mB D cs h0 s.heap.size) (fA h0 s.heap.size)) args s 0 0 (fA h0 s.heap.size)) (F0 m 102 ls []) := by
  obtain ⟨hx, hb, hr, hml, hown, hW, hlocks, hnm, hK, hZ⟩ := id C
  have hown : s.vm.findClass "NetJoins" = some m.cls := hown
  have hA : ∀ q, s.heap.size ≤ q → fA h0 s.heap.size q := fun _ h => Or.inr h
  intro x1 x2 x3 x4 h H locs ls hw hl hR
  unfold wj_NJ_longestBefore_102 at hw
  obtain ⟨y1, ey1⟩ : ∃ y : Int32, y = x4 + (1 : Int32) := ⟨_, rfl⟩
  have hw := hw y1 ey1
  refine lv_iinc (v := y1) (lv' := [(4, .int y1), (0, va_rf (some v0)), (1, .int x1), (2, va_rf x2), (3, va_rf x3)]) hx hb d_NJ_longestBefore_102 hl (k := 4) rfl (by rw [ey1]; rfl) (by decide) (by simp [mx_rf_cat]) (fun ls hl => ?_)
  refine lv_goto (tgt := 17) hx hb d_NJ_longestBefore_105 (by decide) ?_
  exact hK17 x1 x2 x3 y1 _ _ _ _ hw (lv_sub hl [1, 2, 3, 4, 0] rfl) hR
set_option maxHeartbeats 4000000 in
set_option maxRecDepth 100000 in
theorem mn_NJ_longestBefore_99 {D : va_G} {cs : CS} {Z : Nat → Nat} {h0 : HS} {p : Program} {l : Launch} {e : Env} {s : State} {m : MethodId} {args : Array Value} {below : List Frame} {meth : Method} {c : Code} {v0 : Nat} (C : mC D cs Z h0 y_NJ_longestBefore c_NJ_longestBefore 7 (some (.object "NetJoins$Bus")) p s m args meth c) (post : Option Nat → HS → Prop) (K17 : Int32 × Option Nat × Option Nat × Int32 × HS → Prop) (hK17 : ∀ (x1 : Int32) (x2 : Option Nat) (x3 : Option Nat) (x4 : Int32) (h : HS) (H : Heap) (locs : List Loc) (ls : Array Slot), K17 (x1, x2, x3, x4, h) → lv_has ls 7 [(0, va_rf (some v0)), (1, .int x1), (2, va_rf x2), (3, va_rf x3), (4, .int x4)] → mR D cs (fA h0 s.heap.size) h s.heap H locs → W p l e ({ frames := 5, cells := 0, slots := 0, locals := 164 } : Room) s m args below meth c H locs 0 0 (MQ below (va_Qq post (mB D cs h0 s.heap.size) (fA h0 s.heap.size)) args s 0 0 (fA h0 s.heap.size)) (F0 m 17 ls [])) : ∀ (x1 : Int32) (x2 : Option Nat) (x4 : Int32) (x5 : Option Nat) (h : HS) (H : Heap) (locs : List Loc) (ls : Array Slot), wj_NJ_longestBefore_99 Z post K17 v0 x1 x2 x4 x5 h → lv_has ls 7 [(0, va_rf (some v0)), (1, .int x1), (2, va_rf x2), (4, .int x4), (5, va_rf x5)] → mR D cs (fA h0 s.heap.size) h s.heap H locs → W p l e ({ frames := 5, cells := 0, slots := 0, locals := 164 } : Room) s m args below meth c H locs 0 0 (MQ below (va_Qq post (mB D cs h0 s.heap.size) (fA h0 s.heap.size)) args s 0 0 (fA h0 s.heap.size)) (F0 m 99 ls []) := by
  obtain ⟨hx, hb, hr, hml, hown, hW, hlocks, hnm, hK, hZ⟩ := id C
  have hown : s.vm.findClass "NetJoins" = some m.cls := hown
  have hA : ∀ q, s.heap.size ≤ q → fA h0 s.heap.size q := fun _ h => Or.inr h
  intro x1 x2 x4 x5 h H locs ls hw hl hR
  unfold wj_NJ_longestBefore_99 at hw
  refine mx_aload (r := x5) hx hb d_NJ_longestBefore_99 (lv_at hl 4 rfl) ?_
  refine mx_astore_n (i := 3) (r := x5) (lv' := [(3, va_rf x5), (0, va_rf (some v0)), (1, .int x1), (2, va_rf x2), (4, .int x4), (5, va_rf x5)]) hx hb d_NJ_longestBefore_101 rfl hl (by decide) (by simp [mx_rf_cat]) (fun ls hl => ?_)
  exact mn_NJ_longestBefore_102 C post K17 hK17 x1 x2 x5 x4 _ _ _ _ hw (lv_sub hl [1, 2, 3, 0, 4] rfl) hR
set_option maxHeartbeats 4000000 in
set_option maxRecDepth 100000 in
theorem mn_NJ_longestBefore_76 {D : va_G} {cs : CS} {Z : Nat → Nat} {h0 : HS} {p : Program} {l : Launch} {e : Env} {s : State} {m : MethodId} {args : Array Value} {below : List Frame} {meth : Method} {c : Code} {v0 : Nat} (C : mC D cs Z h0 y_NJ_longestBefore c_NJ_longestBefore 7 (some (.object "NetJoins$Bus")) p s m args meth c) (post : Option Nat → HS → Prop) (K17 : Int32 × Option Nat × Option Nat × Int32 × HS → Prop) (hK17 : ∀ (x1 : Int32) (x2 : Option Nat) (x3 : Option Nat) (x4 : Int32) (h : HS) (H : Heap) (locs : List Loc) (ls : Array Slot), K17 (x1, x2, x3, x4, h) → lv_has ls 7 [(0, va_rf (some v0)), (1, .int x1), (2, va_rf x2), (3, va_rf x3), (4, .int x4)] → mR D cs (fA h0 s.heap.size) h s.heap H locs → W p l e ({ frames := 5, cells := 0, slots := 0, locals := 164 } : Room) s m args below meth c H locs 0 0 (MQ below (va_Qq post (mB D cs h0 s.heap.size) (fA h0 s.heap.size)) args s 0 0 (fA h0 s.heap.size)) (F0 m 17 ls [])) : ∀ (x1 : Int32) (x2 : Option Nat) (x3 : Option Nat) (x4 : Int32) (x5 : Option Nat) (s0 : Int32) (h : HS) (H : Heap) (locs : List Loc) (ls : Array Slot), wj_NJ_longestBefore_76 Z post K17 v0 x1 x2 x3 x4 x5 s0 h → lv_has ls 7 [(0, va_rf (some v0)), (1, .int x1), (2, va_rf x2), (3, va_rf x3), (4, .int x4), (5, va_rf x5)] → mR D cs (fA h0 s.heap.size) h s.heap H locs → W p l e ({ frames := 5, cells := 0, slots := 0, locals := 164 } : Room) s m args below meth c H locs 0 0 (MQ below (va_Qq post (mB D cs h0 s.heap.size) (fA h0 s.heap.size)) args s 0 0 (fA h0 s.heap.size)) (F0 m 76 ls [.int s0]) := by
  obtain ⟨hx, hb, hr, hml, hown, hW, hlocks, hnm, hK, hZ⟩ := id C
  have hown : s.vm.findClass "NetJoins" = some m.cls := hown
  have hA : ∀ q, s.heap.size ≤ q → fA h0 s.heap.size q := fun _ h => Or.inr h
  intro x1 x2 x3 x4 x5 s0 h H locs ls hw hl hR
  unfold wj_NJ_longestBefore_76 at hw
  refine lv_istore (i := 6) (lv' := [(6, .int s0), (0, va_rf (some v0)), (1, .int x1), (2, va_rf x2), (3, va_rf x3), (4, .int x4), (5, va_rf x5)]) hx hb d_NJ_longestBefore_76 hl (by decide) (by simp [mx_rf_cat]) (fun ls hl => ?_)
  refine lv_iload hx hb d_NJ_longestBefore_78 (lv_at hl 0 rfl) ?_
  refine lv_if_eq (tgt := 102) hx hb d_NJ_longestBefore_80 (by decide) (fun c1 => ?_) (fun c1 => ?_)
  · have hw := hw.1 c1
    exact mn_NJ_longestBefore_102 C post K17 hK17 x1 x2 x3 x4 _ _ _ _ hw (lv_sub hl [1, 2, 3, 4, 5] rfl) hR
  · have hw := hw.2 c1
    refine mx_aload_n (r := x3) hx hb d_NJ_longestBefore_83 rfl (lv_at hl 4 rfl) ?_
    refine mx_ifnull (tgt := 99) hx hb d_NJ_longestBefore_84 (by decide) (fun c2 => ?_) (fun c2 => ?_)
    · have hw := hw.1 c2
      exact mn_NJ_longestBefore_99 C post K17 hK17 x1 x2 x4 x5 _ _ _ _ hw (lv_sub hl [1, 2, 3, 5, 6] rfl) hR
    · have hw := hw.2 c2
      refine mx_aload (r := x5) hx hb d_NJ_longestBefore_87 (lv_at hl 6 rfl) ?_
      obtain ⟨a5, ea5, t6, hw⟩ := hw
      refine W.eq (g2 := F0 m 89 ls [va_rf (some a5)]) (by rw [← ea5] <;> rfl) ?_
      refine mx_calli (va_runV (b := a5) (As := []) (rest := []) ⟨hx, hb, hml, hown, hW⟩ (mt_Bus_length l D cs Z _ hw) (mx_cwV hW ok_Bus_length kw_373 rfl rfl ⟨Nat.le_of_ble_eq_true rfl, Nat.le_of_ble_eq_true rfl⟩) (mx_preV hK hZ hA hR (ci := 1) rfl t6) rfl rfl hl.1 rfl (lv_room (Nat.le_of_ble_eq_true rfl)) d_NJ_longestBefore_89 ⟨Nat.le_of_ble_eq_true rfl, Nat.le_of_ble_eq_true rfl⟩) hR hA (fun r3 h4 H locs hw hR => ?_)
      try dsimp only at hw
      refine mx_aload_n (r := x3) hx hb d_NJ_longestBefore_92 rfl (lv_at hl 4 rfl) ?_
      obtain ⟨a9, ea9, t10, hw⟩ := hw
      refine W.eq (g2 := F0 m 93 ls [va_rf (some a9), .int r3]) (by rw [← ea9] <;> rfl) ?_
      refine mx_calli (va_runV (b := a9) (As := []) (rest := [.int r3]) ⟨hx, hb, hml, hown, hW⟩ (mt_Bus_length l D cs Z _ hw) (mx_cwV hW ok_Bus_length kw_373 rfl rfl ⟨Nat.le_of_ble_eq_true rfl, Nat.le_of_ble_eq_true rfl⟩) (mx_preV hK hZ hA hR (ci := 1) rfl t10) rfl rfl hl.1 rfl (lv_room (Nat.le_of_ble_eq_true rfl)) d_NJ_longestBefore_93 ⟨Nat.le_of_ble_eq_true rfl, Nat.le_of_ble_eq_true rfl⟩) hR hA (fun r7 h8 H locs hw hR => ?_)
      try dsimp only at hw
      refine lv_icmp_le (tgt := 102) hx hb d_NJ_longestBefore_96 (by decide) (fun c11 => ?_) (fun c11 => ?_)
      · have hw := hw.1 c11
        exact mn_NJ_longestBefore_102 C post K17 hK17 x1 x2 x3 x4 _ _ _ _ hw (lv_sub hl [1, 2, 3, 4, 5] rfl) hR
      · have hw := hw.2 c11
        exact mn_NJ_longestBefore_99 C post K17 hK17 x1 x2 x4 x5 _ _ _ _ hw (lv_sub hl [1, 2, 3, 5, 6] rfl) hR
set_option maxHeartbeats 4000000 in
set_option maxRecDepth 100000 in
theorem mn_NJ_longestBefore_75 {D : va_G} {cs : CS} {Z : Nat → Nat} {h0 : HS} {p : Program} {l : Launch} {e : Env} {s : State} {m : MethodId} {args : Array Value} {below : List Frame} {meth : Method} {c : Code} {v0 : Nat} (C : mC D cs Z h0 y_NJ_longestBefore c_NJ_longestBefore 7 (some (.object "NetJoins$Bus")) p s m args meth c) (post : Option Nat → HS → Prop) (K17 : Int32 × Option Nat × Option Nat × Int32 × HS → Prop) (hK17 : ∀ (x1 : Int32) (x2 : Option Nat) (x3 : Option Nat) (x4 : Int32) (h : HS) (H : Heap) (locs : List Loc) (ls : Array Slot), K17 (x1, x2, x3, x4, h) → lv_has ls 7 [(0, va_rf (some v0)), (1, .int x1), (2, va_rf x2), (3, va_rf x3), (4, .int x4)] → mR D cs (fA h0 s.heap.size) h s.heap H locs → W p l e ({ frames := 5, cells := 0, slots := 0, locals := 164 } : Room) s m args below meth c H locs 0 0 (MQ below (va_Qq post (mB D cs h0 s.heap.size) (fA h0 s.heap.size)) args s 0 0 (fA h0 s.heap.size)) (F0 m 17 ls [])) : ∀ (x1 : Int32) (x2 : Option Nat) (x3 : Option Nat) (x4 : Int32) (x5 : Option Nat) (h : HS) (H : Heap) (locs : List Loc) (ls : Array Slot), wj_NJ_longestBefore_75 Z post K17 v0 x1 x2 x3 x4 x5 h → lv_has ls 7 [(0, va_rf (some v0)), (1, .int x1), (2, va_rf x2), (3, va_rf x3), (4, .int x4), (5, va_rf x5)] → mR D cs (fA h0 s.heap.size) h s.heap H locs → W p l e ({ frames := 5, cells := 0, slots := 0, locals := 164 } : Room) s m args below meth c H locs 0 0 (MQ below (va_Qq post (mB D cs h0 s.heap.size) (fA h0 s.heap.size)) args s 0 0 (fA h0 s.heap.size)) (F0 m 75 ls []) := by
  obtain ⟨hx, hb, hr, hml, hown, hW, hlocks, hnm, hK, hZ⟩ := id C
  have hown : s.vm.findClass "NetJoins" = some m.cls := hown
  have hA : ∀ q, s.heap.size ≤ q → fA h0 s.heap.size q := fun _ h => Or.inr h
  intro x1 x2 x3 x4 x5 h H locs ls hw hl hR
  unfold wj_NJ_longestBefore_75 at hw
  refine lv_iconst (v := 0) hx hb d_NJ_longestBefore_75 (by decide) ?_
  exact mn_NJ_longestBefore_76 C post K17 hK17 x1 x2 x3 x4 x5 (0 : Int32) _ _ _ _ hw (lv_sub hl [0, 1, 2, 3, 4, 5] rfl) hR
set_option maxHeartbeats 4000000 in
set_option maxRecDepth 100000 in
theorem mn_NJ_longestBefore_71 {D : va_G} {cs : CS} {Z : Nat → Nat} {h0 : HS} {p : Program} {l : Launch} {e : Env} {s : State} {m : MethodId} {args : Array Value} {below : List Frame} {meth : Method} {c : Code} {v0 : Nat} (C : mC D cs Z h0 y_NJ_longestBefore c_NJ_longestBefore 7 (some (.object "NetJoins$Bus")) p s m args meth c) (post : Option Nat → HS → Prop) (K17 : Int32 × Option Nat × Option Nat × Int32 × HS → Prop) (hK17 : ∀ (x1 : Int32) (x2 : Option Nat) (x3 : Option Nat) (x4 : Int32) (h : HS) (H : Heap) (locs : List Loc) (ls : Array Slot), K17 (x1, x2, x3, x4, h) → lv_has ls 7 [(0, va_rf (some v0)), (1, .int x1), (2, va_rf x2), (3, va_rf x3), (4, .int x4)] → mR D cs (fA h0 s.heap.size) h s.heap H locs → W p l e ({ frames := 5, cells := 0, slots := 0, locals := 164 } : Room) s m args below meth c H locs 0 0 (MQ below (va_Qq post (mB D cs h0 s.heap.size) (fA h0 s.heap.size)) args s 0 0 (fA h0 s.heap.size)) (F0 m 17 ls [])) : ∀ (x1 : Int32) (x2 : Option Nat) (x3 : Option Nat) (x4 : Int32) (x5 : Option Nat) (h : HS) (H : Heap) (locs : List Loc) (ls : Array Slot), wj_NJ_longestBefore_71 Z post K17 v0 x1 x2 x3 x4 x5 h → lv_has ls 7 [(0, va_rf (some v0)), (1, .int x1), (2, va_rf x2), (3, va_rf x3), (4, .int x4), (5, va_rf x5)] → mR D cs (fA h0 s.heap.size) h s.heap H locs → W p l e ({ frames := 5, cells := 0, slots := 0, locals := 164 } : Room) s m args below meth c H locs 0 0 (MQ below (va_Qq post (mB D cs h0 s.heap.size) (fA h0 s.heap.size)) args s 0 0 (fA h0 s.heap.size)) (F0 m 71 ls []) := by
  obtain ⟨hx, hb, hr, hml, hown, hW, hlocks, hnm, hK, hZ⟩ := id C
  have hown : s.vm.findClass "NetJoins" = some m.cls := hown
  have hA : ∀ q, s.heap.size ≤ q → fA h0 s.heap.size q := fun _ h => Or.inr h
  intro x1 x2 x3 x4 x5 h H locs ls hw hl hR
  unfold wj_NJ_longestBefore_71 at hw
  refine lv_iconst (v := 1) hx hb d_NJ_longestBefore_71 (by decide) ?_
  refine lv_goto (tgt := 76) hx hb d_NJ_longestBefore_72 (by decide) ?_
  exact mn_NJ_longestBefore_76 C post K17 hK17 x1 x2 x3 x4 x5 (1 : Int32) _ _ _ _ hw (lv_sub hl [0, 1, 2, 3, 4, 5] rfl) hR
set_option maxHeartbeats 4000000 in
set_option maxRecDepth 100000 in
theorem mn_NJ_longestBefore_17 {D : va_G} {cs : CS} {Z : Nat → Nat} {h0 : HS} {p : Program} {l : Launch} {e : Env} {s : State} {m : MethodId} {args : Array Value} {below : List Frame} {meth : Method} {c : Code} {v0 : Nat} (C : mC D cs Z h0 y_NJ_longestBefore c_NJ_longestBefore 7 (some (.object "NetJoins$Bus")) p s m args meth c) (post : Option Nat → HS → Prop) : ∀ (n : Nat) (x1 : Int32) (x2 : Option Nat) (x3 : Option Nat) (x4 : Int32) (h : HS) (H : Heap) (locs : List Loc) (ls : Array Slot), lpF (wb_NJ_longestBefore_17 Z post v0) n (x1, x2, x3, x4, h) → lv_has ls 7 [(0, va_rf (some v0)), (1, .int x1), (2, va_rf x2), (3, va_rf x3), (4, .int x4)] → mR D cs (fA h0 s.heap.size) h s.heap H locs → W p l e ({ frames := 5, cells := 0, slots := 0, locals := 164 } : Room) s m args below meth c H locs 0 0 (MQ below (va_Qq post (mB D cs h0 s.heap.size) (fA h0 s.heap.size)) args s 0 0 (fA h0 s.heap.size)) (F0 m 17 ls []) := by
  obtain ⟨hx, hb, hr, hml, hown, hW, hlocks, hnm, hK, hZ⟩ := id C
  have hown : s.vm.findClass "NetJoins" = some m.cls := hown
  have hA : ∀ q, s.heap.size ≤ q → fA h0 s.heap.size q := fun _ h => Or.inr h
  intro n
  induction n with
  | zero => intro x1 x2 x3 x4 h H locs ls hw; exact hw.elim
  | succ n ih =>
    intro x1 x2 x3 x4 h H locs ls hw hl hR
    have hw : wb_NJ_longestBefore_17 Z post v0 (lpF (wb_NJ_longestBefore_17 Z post v0) n) (x1, x2, x3, x4, h) := hw
    unfold wb_NJ_longestBefore_17 at hw
    dsimp only at hw
    refine lv_iload hx hb d_NJ_longestBefore_17 (lv_at hl 4 rfl) ?_
    refine lv_iload_n hx hb d_NJ_longestBefore_19 rfl (lv_at hl 1 rfl) ?_
    refine lv_icmp_ge (tgt := 108) hx hb d_NJ_longestBefore_20 (by decide) (fun c1 => ?_) (fun c1 => ?_)
    · have hw := hw.1 c1
      refine mx_aload_n (r := x3) hx hb d_NJ_longestBefore_108 rfl (lv_at hl 3 rfl) ?_
      exact mx_aret hx hb hr (Or.inl ⟨_, rfl⟩) hlocks hR hw d_NJ_longestBefore_109
    · have hw := hw.2 c1
      refine mx_aload_n (r := some v0) hx hb d_NJ_longestBefore_23 rfl (lv_at hl 0 rfl) ?_
      obtain ⟨t2, hw⟩ := hw
      refine mx_get (ci := 0) (C := "NetJoins") (T := F_NJ) (N := 18) hx hb hW hown hK.1 hR (a := v0) rfl t2 rfl i_NJ 7 2 (by decide) rfl kw_127 (fun _ h9 => h9) d_NJ_longestBefore_24 ?_
      refine lv_iload hx hb d_NJ_longestBefore_27 (lv_at hl 4 rfl) ?_
      obtain ⟨a5, ea5, t6, hw⟩ := hw
      refine W.eq (g2 := F0 m 29 ls [.int x4, va_rf (some a5)]) (by rw [← ea5] <;> rfl) ?_
      refine mx_callr (va_runV (b := a5) (As := [.int x4]) (rest := []) ⟨hx, hb, hml, hown, hW⟩ (mt_AL_get l D cs Z _ hw) (mx_cwV hW ok_AL_get kw_196 rfl rfl ⟨Nat.le_of_ble_eq_true rfl, Nat.le_of_ble_eq_true rfl⟩) (mx_preV hK hZ hA hR (ci := 9) rfl t6) rfl rfl hl.1 rfl (lv_room (Nat.le_of_ble_eq_true rfl)) d_NJ_longestBefore_29 ⟨Nat.le_of_ble_eq_true rfl, Nat.le_of_ble_eq_true rfl⟩) hR hA (fun r3 h4 H locs hw hR => ?_)
      try dsimp only at hw
      obtain ⟨t7, hw⟩ := hw
      refine mx_cast (ci := 1) (C := "NetJoins$Bus") (T := F_Bus) (N := 4) hx hb hW hown hK.1 hR rfl kw_364 t7 d_NJ_longestBefore_32 ?_
      refine mx_astore (i := 5) (r := r3) (lv' := [(5, va_rf r3), (0, va_rf (some v0)), (1, .int x1), (2, va_rf x2), (3, va_rf x3), (4, .int x4)]) hx hb d_NJ_longestBefore_35 hl (by decide) rfl (fun ls hl => ?_)
      refine mx_aload (r := r3) hx hb d_NJ_longestBefore_37 (lv_at hl 0 rfl) ?_
      obtain ⟨a8, ea8, t9, hw⟩ := hw
      refine mx_get (ci := 1) (C := "NetJoins$Bus") (T := F_Bus) (N := 4) hx hb hW hown hK.1 hR (a := a8) ea8 t9 rfl i_Bus 1 0 (by decide) rfl kw_1063 (fun _ h9 => h9) d_NJ_longestBefore_39 ?_
      refine mx_aload_n (r := x2) hx hb d_NJ_longestBefore_42 rfl (lv_at hl 3 rfl) ?_
      obtain ⟨a10, ea10, t11, hw⟩ := hw
      refine mx_get (ci := 1) (C := "NetJoins$Bus") (T := F_Bus) (N := 4) hx hb hW hown hK.1 hR (a := a10) ea10 t11 rfl i_Bus 1 0 (by decide) rfl kw_1063 (fun _ h9 => h9) d_NJ_longestBefore_43 ?_
      refine lv_icmp_ne (tgt := 75) hx hb d_NJ_longestBefore_46 (by decide) (fun c12 => ?_) (fun c12 => ?_)
      · have hw := hw.1 c12
        exact mn_NJ_longestBefore_75 C post (lpF (wb_NJ_longestBefore_17 Z post v0) n) ih x1 x2 x3 x4 r3 _ _ _ _ hw (lv_sub hl [1, 2, 3, 4, 5, 0] rfl) hR
      · have hw := hw.2 c12
        refine mx_aload_n (r := x2) hx hb d_NJ_longestBefore_49 rfl (lv_at hl 3 rfl) ?_
        obtain ⟨a13, ea13, t14, hw⟩ := hw
        refine mx_get (ci := 1) (C := "NetJoins$Bus") (T := F_Bus) (N := 4) hx hb hW hown hK.1 hR (a := a13) ea13 t14 rfl i_Bus 1 0 (by decide) rfl kw_1063 (fun _ h9 => h9) d_NJ_longestBefore_50 ?_
        refine mx_calli (va_runS (As := [.int (gI h4 101 a13)]) (rest := []) ⟨hx, hb, hml, hown, hW⟩ (mt_NJ_isPower l D cs Z _ hw) (mx_cwS hW ok_NJ_isPower kw_219 rfl rfl ⟨Nat.le_of_ble_eq_true rfl, Nat.le_of_ble_eq_true rfl⟩) (mx_preS hK hZ hA hR) rfl rfl hl.1 rfl (lv_room (Nat.le_of_ble_eq_true rfl)) d_NJ_longestBefore_53 ⟨Nat.le_of_ble_eq_true rfl, Nat.le_of_ble_eq_true rfl⟩) hR hA (fun r15 h16 H locs hw hR => ?_)
        try dsimp only at hw
        refine lv_if_ne (tgt := 71) hx hb d_NJ_longestBefore_56 (by decide) (fun c17 => ?_) (fun c17 => ?_)
        · have hw := hw.1 c17
          exact mn_NJ_longestBefore_71 C post (lpF (wb_NJ_longestBefore_17 Z post v0) n) ih x1 x2 x3 x4 r3 _ _ _ _ hw (lv_sub hl [1, 2, 3, 4, 5, 0] rfl) hR
        · have hw := hw.2 c17
          refine mx_aload (r := r3) hx hb d_NJ_longestBefore_59 (lv_at hl 0 rfl) ?_
          obtain ⟨a18, ea18, t19, hw⟩ := hw
          refine mx_get (ci := 1) (C := "NetJoins$Bus") (T := F_Bus) (N := 4) hx hb hW hown hK.1 hR (a := a18) ea18 t19 rfl i_Bus 0 0 (by decide) rfl kw_1061 (fun _ h9 => h9) d_NJ_longestBefore_61 ?_
          refine mx_aload_n (r := x2) hx hb d_NJ_longestBefore_64 rfl (lv_at hl 3 rfl) ?_
          obtain ⟨a20, ea20, t21, hw⟩ := hw
          refine mx_get (ci := 1) (C := "NetJoins$Bus") (T := F_Bus) (N := 4) hx hb hW hown hK.1 hR (a := a20) ea20 t21 rfl i_Bus 0 0 (by decide) rfl kw_1061 (fun _ h9 => h9) d_NJ_longestBefore_65 ?_
          refine lv_icmp_ne (tgt := 75) hx hb d_NJ_longestBefore_68 (by decide) (fun c22 => ?_) (fun c22 => ?_)
          · have hw := hw.1 c22
            exact mn_NJ_longestBefore_75 C post (lpF (wb_NJ_longestBefore_17 Z post v0) n) ih x1 x2 x3 x4 r3 _ _ _ _ hw (lv_sub hl [1, 2, 3, 4, 5, 0] rfl) hR
          · have hw := hw.2 c22
            exact mn_NJ_longestBefore_71 C post (lpF (wb_NJ_longestBefore_17 Z post v0) n) ih x1 x2 x3 x4 r3 _ _ _ _ hw (lv_sub hl [1, 2, 3, 4, 5, 0] rfl) hR
set_option maxHeartbeats 4000000 in
set_option maxRecDepth 100000 in
theorem mt_NJ_longestBefore (l : Launch) (D : va_G) (cs : CS) (Z : Nat → Nat) (sz : Nat) {post : Option Nat → HS → Prop} {h : HS} {v0 : Nat} {x1 : Int32} (hw : wp_NJ_longestBefore Z post h v0 x1) : Met l y_NJ_longestBefore (Cond.code y_NJ_longestBefore c_NJ_longestBefore 7 (some (.object "NetJoins$Bus")) :: WA) ({ frames := 5, cells := 0, slots := 0, locals := 164 } : Room) (mPc D cs Z h sz [va_rf (some v0), .int x1]) (va_Qq post (mB D cs h sz) (fA h sz)) 0 0 (fA h sz) := by
  refine mx_met (fun sz => va_Qq post (mB D cs h sz) (fA h sz)) (by decide) (by simp [lg_sl, mx_rf_cat, cat_i, cat_l]) ?_
  intro p e s m args below meth c C hR ls hl
  have hl : lv_has ls 7 [(0, va_rf (some v0)), (1, .int x1)] := hl
  obtain ⟨hx, hb, hr, hml, hown, hW, hlocks, hnm, hK, hZ⟩ := id C
  have hown : s.vm.findClass "NetJoins" = some m.cls := hown
  have hA : ∀ q, s.heap.size ≤ q → fA h s.heap.size q := fun _ h => Or.inr h
  unfold wp_NJ_longestBefore at hw
  refine mx_aload_n (r := some v0) hx hb d_NJ_longestBefore_0 rfl (lv_at hl 0 rfl) ?_
  obtain ⟨t1, hw⟩ := hw
  refine mx_get (ci := 0) (C := "NetJoins") (T := F_NJ) (N := 18) hx hb hW hown hK.1 hR (a := v0) rfl t1 rfl i_NJ 7 2 (by decide) rfl kw_127 (fun _ h9 => h9) d_NJ_longestBefore_1 ?_
  refine lv_iload_n hx hb d_NJ_longestBefore_4 rfl (lv_at hl 1 rfl) ?_
  obtain ⟨a4, ea4, t5, hw⟩ := hw
  refine W.eq (g2 := F0 m 5 ls [.int x1, va_rf (some a4)]) (by rw [← ea4] <;> rfl) ?_
  refine mx_callr (va_runV (b := a4) (As := [.int x1]) (rest := []) ⟨hx, hb, hml, hown, hW⟩ (mt_AL_get l D cs Z _ hw) (mx_cwV hW ok_AL_get kw_196 rfl rfl ⟨Nat.le_of_ble_eq_true rfl, Nat.le_of_ble_eq_true rfl⟩) (mx_preV hK hZ hA hR (ci := 9) rfl t5) rfl rfl hl.1 rfl (lv_room (Nat.le_of_ble_eq_true rfl)) d_NJ_longestBefore_5 ⟨Nat.le_of_ble_eq_true rfl, Nat.le_of_ble_eq_true rfl⟩) hR hA (fun r2 h3 H locs hw hR => ?_)
  try dsimp only at hw
  obtain ⟨t6, hw⟩ := hw
  refine mx_cast (ci := 1) (C := "NetJoins$Bus") (T := F_Bus) (N := 4) hx hb hW hown hK.1 hR rfl kw_364 t6 d_NJ_longestBefore_8 ?_
  refine mx_astore_n (i := 2) (r := r2) (lv' := [(2, va_rf r2), (0, va_rf (some v0)), (1, .int x1)]) hx hb d_NJ_longestBefore_11 rfl hl (by decide) rfl (fun ls hl => ?_)
  refine mx_null hx hb d_NJ_longestBefore_12 ?_
  refine mx_astore_n (i := 3) (r := none) (lv' := [(3, va_rf none), (2, va_rf r2), (0, va_rf (some v0)), (1, .int x1)]) hx hb d_NJ_longestBefore_13 rfl hl (by decide) (by simp [mx_rf_cat]) (fun ls hl => ?_)
  refine lv_iconst (v := 0) hx hb d_NJ_longestBefore_14 (by decide) ?_
  refine lv_istore (i := 4) (lv' := [(4, .int (0 : Int32)), (3, va_rf none), (2, va_rf r2), (0, va_rf (some v0)), (1, .int x1)]) hx hb d_NJ_longestBefore_15 hl (by decide) rfl (fun ls hl => ?_)
  obtain ⟨n9, hw⟩ := hw
  exact mn_NJ_longestBefore_17 C post n9 x1 r2 none (0 : Int32) _ _ _ _ hw (lv_sub hl [3, 4, 2, 1, 0] rfl) hR
set_option maxHeartbeats 4000000 in
set_option maxRecDepth 100000 in
theorem mn_NJ_joinBus_77 {D : va_G} {cs : CS} {Z : Nat → Nat} {h0 : HS} {p : Program} {l : Launch} {e : Env} {s : State} {m : MethodId} {args : Array Value} {below : List Frame} {meth : Method} {c : Code} {v0 : Nat} (C : mC D cs Z h0 y_NJ_joinBus c_NJ_joinBus 6 none p s m args meth c) (post : HS → Prop) : ∀ (s0 : Int32) (s1 : Option Nat) (s2 : Int32) (s3 : Option Nat) (s4 : Option Nat) (h : HS) (H : Heap) (locs : List Loc) (ls : Array Slot), wj_NJ_joinBus_77 Z post v0 s0 s1 s2 s3 s4 h → lv_has ls 6 [] → mR D cs (fA h0 s.heap.size) h s.heap H locs → W p l e ({ frames := 6, cells := 0, slots := 0, locals := 190 } : Room) s m args below meth c H locs 0 0 (MQ below (va_Qv post (mB D cs h0 s.heap.size) (fA h0 s.heap.size)) args s 0 0 (fA h0 s.heap.size)) (F0 m 77 ls [.int s0, va_rf s1, .int s2, va_rf s3, va_rf s4]) := by
  obtain ⟨hx, hb, hr, hml, hown, hW, hlocks, hnm, hK, hZ⟩ := id C
  have hown : s.vm.findClass "NetJoins" = some m.cls := hown
  have hA : ∀ q, s.heap.size ≤ q → fA h0 s.heap.size q := fun _ h => Or.inr h
  intro s0 s1 s2 s3 s4 h H locs ls hw hl hR
  unfold wj_NJ_joinBus_77 at hw
  obtain ⟨a3, ea3, t4, hw⟩ := hw
  refine W.eq (g2 := F0 m 77 ls [.int s0, va_rf s1, .int s2, va_rf s3, va_rf (some a3)]) (by rw [← ea3] <;> rfl) ?_
  refine mx_callv (va_runV (b := a3) (As := [va_rf s3, .int s2, va_rf s1, .int s0]) (rest := []) ⟨hx, hb, hml, hown, hW⟩ (mt_NJ_joinMembers l D cs Z _ hw) (mx_cwV hW ok_NJ_joinMembers kw_369 rfl rfl ⟨Nat.le_of_ble_eq_true rfl, Nat.le_of_ble_eq_true rfl⟩) (mx_preV hK hZ hA hR (ci := 0) rfl t4) rfl rfl hl.1 rfl (lv_room (Nat.le_of_ble_eq_true rfl)) d_NJ_joinBus_77 ⟨Nat.le_of_ble_eq_true rfl, Nat.le_of_ble_eq_true rfl⟩) hR hA (fun h2 H locs hw hR => ?_)
  try dsimp only at hw
  exact mx_vret hx hb hr hlocks hR hw d_NJ_joinBus_80
set_option maxHeartbeats 4000000 in
set_option maxRecDepth 100000 in
theorem mn_NJ_joinBus_46 {D : va_G} {cs : CS} {Z : Nat → Nat} {h0 : HS} {p : Program} {l : Launch} {e : Env} {s : State} {m : MethodId} {args : Array Value} {below : List Frame} {meth : Method} {c : Code} {v0 : Nat} (C : mC D cs Z h0 y_NJ_joinBus c_NJ_joinBus 6 none p s m args meth c) (post : HS → Prop) : ∀ (x1 : Int32) (x2 : Int32) (x3 : Option Nat) (x4 : Int32) (h : HS) (H : Heap) (locs : List Loc) (ls : Array Slot), wj_NJ_joinBus_46 Z post v0 x1 x2 x3 x4 h → lv_has ls 6 [(0, va_rf (some v0)), (1, .int x1), (2, .int x2), (3, va_rf x3), (4, .int x4)] → mR D cs (fA h0 s.heap.size) h s.heap H locs → W p l e ({ frames := 6, cells := 0, slots := 0, locals := 190 } : Room) s m args below meth c H locs 0 0 (MQ below (va_Qv post (mB D cs h0 s.heap.size) (fA h0 s.heap.size)) args s 0 0 (fA h0 s.heap.size)) (F0 m 46 ls []) := by
  obtain ⟨hx, hb, hr, hml, hown, hW, hlocks, hnm, hK, hZ⟩ := id C
  have hown : s.vm.findClass "NetJoins" = some m.cls := hown
  have hA : ∀ q, s.heap.size ≤ q → fA h0 s.heap.size q := fun _ h => Or.inr h
  intro x1 x2 x3 x4 h H locs ls hw hl hR
  unfold wj_NJ_joinBus_46 at hw
  refine mx_aload_n (r := some v0) hx hb d_NJ_joinBus_46 rfl (lv_at hl 0 rfl) ?_
  refine lv_iload_n hx hb d_NJ_joinBus_47 rfl (lv_at hl 1 rfl) ?_
  obtain ⟨t3, hw⟩ := hw
  refine mx_callr (va_runV (b := v0) (As := [.int x1]) (rest := []) ⟨hx, hb, hml, hown, hW⟩ (mt_NJ_longestBefore l D cs Z _ hw) (mx_cwV hW ok_NJ_longestBefore kw_385 rfl rfl ⟨Nat.le_of_ble_eq_true rfl, Nat.le_of_ble_eq_true rfl⟩) (mx_preV hK hZ hA hR (ci := 0) rfl t3) rfl rfl hl.1 rfl (lv_room (Nat.le_of_ble_eq_true rfl)) d_NJ_joinBus_48 ⟨Nat.le_of_ble_eq_true rfl, Nat.le_of_ble_eq_true rfl⟩) hR hA (fun r1 h2 H locs hw hR => ?_)
  try dsimp only at hw
  refine mx_astore (i := 5) (r := r1) (lv' := [(5, va_rf r1), (0, va_rf (some v0)), (1, .int x1), (2, .int x2), (3, va_rf x3), (4, .int x4)]) hx hb d_NJ_joinBus_51 hl (by decide) rfl (fun ls hl => ?_)
  refine mx_aload (r := r1) hx hb d_NJ_joinBus_53 (lv_at hl 0 rfl) ?_
  refine mx_ifnull (tgt := 80) hx hb d_NJ_joinBus_55 (by decide) (fun c4 => ?_) (fun c4 => ?_)
  · have hw := hw.1 c4
    exact mx_vret hx hb hr hlocks hR hw d_NJ_joinBus_80
  · have hw := hw.2 c4
    refine mx_aload_n (r := some v0) hx hb d_NJ_joinBus_58 rfl (lv_at hl 1 rfl) ?_
    refine mx_aload_n (r := x3) hx hb d_NJ_joinBus_59 rfl (lv_at hl 4 rfl) ?_
    refine lv_iload_n hx hb d_NJ_joinBus_60 rfl (lv_at hl 3 rfl) ?_
    refine mx_aload (r := r1) hx hb d_NJ_joinBus_61 (lv_at hl 0 rfl) ?_
    refine lv_iload hx hb d_NJ_joinBus_63 (lv_at hl 5 rfl) ?_
    refine lv_if_eq (tgt := 76) hx hb d_NJ_joinBus_65 (by decide) (fun c5 => ?_) (fun c5 => ?_)
    · have hw := hw.1 c5
      refine lv_iload_n hx hb d_NJ_joinBus_76 rfl (lv_at hl 3 rfl) ?_
      exact mn_NJ_joinBus_77 C post x2 r1 x2 x3 (some v0) _ _ _ _ hw (lv_sub hl [] rfl) hR
    · have hw := hw.2 c5
      refine mx_aload (r := r1) hx hb d_NJ_joinBus_68 (lv_at hl 0 rfl) ?_
      obtain ⟨a6, ea6, t7, hw⟩ := hw
      refine mx_get (ci := 1) (C := "NetJoins$Bus") (T := F_Bus) (N := 4) hx hb hW hown hK.1 hR (a := a6) ea6 t7 rfl i_Bus 0 0 (by decide) rfl kw_1061 (fun _ h9 => h9) d_NJ_joinBus_70 ?_
      refine lv_goto (tgt := 77) hx hb d_NJ_joinBus_73 (by decide) ?_
      exact mn_NJ_joinBus_77 C post (gI h2 100 a6) r1 x2 x3 (some v0) _ _ _ _ hw (lv_sub hl [] rfl) hR
set_option maxHeartbeats 4000000 in
set_option maxRecDepth 100000 in
theorem mt_NJ_joinBus (l : Launch) (D : va_G) (cs : CS) (Z : Nat → Nat) (sz : Nat) {post : HS → Prop} {h : HS} {v0 : Nat} {x1 : Int32} {x2 : Int32} (hw : wp_NJ_joinBus Z post h v0 x1 x2) : Met l y_NJ_joinBus (Cond.code y_NJ_joinBus c_NJ_joinBus 6 none :: WA) ({ frames := 6, cells := 0, slots := 0, locals := 190 } : Room) (mPc D cs Z h sz [va_rf (some v0), .int x1, .int x2]) (va_Qv post (mB D cs h sz) (fA h sz)) 0 0 (fA h sz) := by
  refine mx_met (fun sz => va_Qv post (mB D cs h sz) (fA h sz)) (by decide) (by simp [lg_sl, mx_rf_cat, cat_i, cat_l]) ?_
  intro p e s m args below meth c C hR ls hl
  have hl : lv_has ls 6 [(0, va_rf (some v0)), (1, .int x1), (2, .int x2)] := hl
  obtain ⟨hx, hb, hr, hml, hown, hW, hlocks, hnm, hK, hZ⟩ := id C
  have hown : s.vm.findClass "NetJoins" = some m.cls := hown
  have hA : ∀ q, s.heap.size ≤ q → fA h s.heap.size q := fun _ h => Or.inr h
  unfold wp_NJ_joinBus at hw
  refine mx_aload_n (r := some v0) hx hb d_NJ_joinBus_0 rfl (lv_at hl 0 rfl) ?_
  obtain ⟨t1, hw⟩ := hw
  refine mx_get (ci := 0) (C := "NetJoins") (T := F_NJ) (N := 18) hx hb hW hown hK.1 hR (a := v0) rfl t1 rfl i_NJ 7 2 (by decide) rfl kw_127 (fun _ h9 => h9) d_NJ_joinBus_1 ?_
  refine lv_iload_n hx hb d_NJ_joinBus_4 rfl (lv_at hl 1 rfl) ?_
  obtain ⟨a4, ea4, t5, hw⟩ := hw
  refine W.eq (g2 := F0 m 5 ls [.int x1, va_rf (some a4)]) (by rw [← ea4] <;> rfl) ?_
  refine mx_callr (va_runV (b := a4) (As := [.int x1]) (rest := []) ⟨hx, hb, hml, hown, hW⟩ (mt_AL_get l D cs Z _ hw) (mx_cwV hW ok_AL_get kw_196 rfl rfl ⟨Nat.le_of_ble_eq_true rfl, Nat.le_of_ble_eq_true rfl⟩) (mx_preV hK hZ hA hR (ci := 9) rfl t5) rfl rfl hl.1 rfl (lv_room (Nat.le_of_ble_eq_true rfl)) d_NJ_joinBus_5 ⟨Nat.le_of_ble_eq_true rfl, Nat.le_of_ble_eq_true rfl⟩) hR hA (fun r2 h3 H locs hw hR => ?_)
  try dsimp only at hw
  obtain ⟨t6, hw⟩ := hw
  refine mx_cast (ci := 1) (C := "NetJoins$Bus") (T := F_Bus) (N := 4) hx hb hW hown hK.1 hR rfl kw_364 t6 d_NJ_joinBus_8 ?_
  refine mx_astore_n (i := 3) (r := r2) (lv' := [(3, va_rf r2), (0, va_rf (some v0)), (1, .int x1), (2, .int x2)]) hx hb d_NJ_joinBus_11 rfl hl (by decide) rfl (fun ls hl => ?_)
  refine mx_aload_n (r := r2) hx hb d_NJ_joinBus_12 rfl (lv_at hl 0 rfl) ?_
  obtain ⟨a7, ea7, t8, hw⟩ := hw
  refine mx_get (ci := 1) (C := "NetJoins$Bus") (T := F_Bus) (N := 4) hx hb hW hown hK.1 hR (a := a7) ea7 t8 rfl i_Bus 1 0 (by decide) rfl kw_1063 (fun _ h9 => h9) d_NJ_joinBus_13 ?_
  refine mx_calli (va_runS (As := [.int (gI h3 101 a7)]) (rest := []) ⟨hx, hb, hml, hown, hW⟩ (mt_NJ_isPower l D cs Z _ hw) (mx_cwS hW ok_NJ_isPower kw_219 rfl rfl ⟨Nat.le_of_ble_eq_true rfl, Nat.le_of_ble_eq_true rfl⟩) (mx_preS hK hZ hA hR) rfl rfl hl.1 rfl (lv_room (Nat.le_of_ble_eq_true rfl)) d_NJ_joinBus_16 ⟨Nat.le_of_ble_eq_true rfl, Nat.le_of_ble_eq_true rfl⟩) hR hA (fun r9 h10 H locs hw hR => ?_)
  try dsimp only at hw
  refine lv_istore (i := 4) (lv' := [(4, .int r9), (3, va_rf r2), (0, va_rf (some v0)), (1, .int x1), (2, .int x2)]) hx hb d_NJ_joinBus_19 hl (by decide) (by simp [mx_rf_cat]) (fun ls hl => ?_)
  refine lv_iload hx hb d_NJ_joinBus_21 (lv_at hl 0 rfl) ?_
  refine lv_if_eq (tgt := 46) hx hb d_NJ_joinBus_23 (by decide) (fun c11 => ?_) (fun c11 => ?_)
  · have hw := hw.1 c11
    exact mn_NJ_joinBus_46 C post x1 x2 r2 r9 _ _ _ _ hw (lv_sub hl [2, 3, 4, 1, 0] rfl) hR
  · have hw := hw.2 c11
    refine lv_iload_n hx hb d_NJ_joinBus_26 rfl (lv_at hl 4 rfl) ?_
    refine mx_aload_n (r := r2) hx hb d_NJ_joinBus_27 rfl (lv_at hl 1 rfl) ?_
    obtain ⟨a12, ea12, t13, hw⟩ := hw
    refine mx_get (ci := 1) (C := "NetJoins$Bus") (T := F_Bus) (N := 4) hx hb hW hown hK.1 hR (a := a12) ea12 t13 rfl i_Bus 0 0 (by decide) rfl kw_1061 (fun _ h9 => h9) d_NJ_joinBus_28 ?_
    refine lv_icmp_eq (tgt := 46) hx hb d_NJ_joinBus_31 (by decide) (fun c14 => ?_) (fun c14 => ?_)
    · have hw := hw.1 c14
      exact mn_NJ_joinBus_46 C post x1 x2 r2 r9 _ _ _ _ hw (lv_sub hl [2, 3, 4, 1, 0] rfl) hR
    · have hw := hw.2 c14
      refine mx_aload_n (r := some v0) hx hb d_NJ_joinBus_34 rfl (lv_at hl 2 rfl) ?_
      refine mx_aload_n (r := r2) hx hb d_NJ_joinBus_35 rfl (lv_at hl 1 rfl) ?_
      refine lv_iload_n hx hb d_NJ_joinBus_36 rfl (lv_at hl 4 rfl) ?_
      refine mx_aload_n (r := r2) hx hb d_NJ_joinBus_37 rfl (lv_at hl 1 rfl) ?_
      refine mx_aload_n (r := r2) hx hb d_NJ_joinBus_38 rfl (lv_at hl 1 rfl) ?_
      obtain ⟨a15, ea15, t16, hw⟩ := hw
      refine mx_get (ci := 1) (C := "NetJoins$Bus") (T := F_Bus) (N := 4) hx hb hW hown hK.1 hR (a := a15) ea15 t16 rfl i_Bus 0 0 (by decide) rfl kw_1061 (fun _ h9 => h9) d_NJ_joinBus_39 ?_
      obtain ⟨t19, hw⟩ := hw
      refine mx_callv (va_runV (b := v0) (As := [va_rf r2, .int x2, va_rf r2, .int (gI h10 100 a15)]) (rest := []) ⟨hx, hb, hml, hown, hW⟩ (mt_NJ_joinMembers l D cs Z _ hw) (mx_cwV hW ok_NJ_joinMembers kw_369 rfl rfl ⟨Nat.le_of_ble_eq_true rfl, Nat.le_of_ble_eq_true rfl⟩) (mx_preV hK hZ hA hR (ci := 0) rfl t19) rfl rfl hl.1 rfl (lv_room (Nat.le_of_ble_eq_true rfl)) d_NJ_joinBus_42 ⟨Nat.le_of_ble_eq_true rfl, Nat.le_of_ble_eq_true rfl⟩) hR hA (fun h18 H locs hw hR => ?_)
      try dsimp only at hw
      exact mx_vret hx hb hr hlocks hR hw d_NJ_joinBus_45
set_option maxHeartbeats 4000000 in
set_option maxRecDepth 100000 in
theorem mn_NJ_joinBusesOn_43 {D : va_G} {cs : CS} {Z : Nat → Nat} {h0 : HS} {p : Program} {l : Launch} {e : Env} {s : State} {m : MethodId} {args : Array Value} {below : List Frame} {meth : Method} {c : Code} {v0 : Nat} (C : mC D cs Z h0 y_NJ_joinBusesOn c_NJ_joinBusesOn 3 none p s m args meth c) (post : HS → Prop) (K2 : Option Nat × Int32 × HS → Prop) (hK2 : ∀ (x1 : Option Nat) (x2 : Int32) (h : HS) (H : Heap) (locs : List Loc) (ls : Array Slot), K2 (x1, x2, h) → lv_has ls 3 [(0, va_rf (some v0)), (1, va_rf x1), (2, .int x2)] → mR D cs (fA h0 s.heap.size) h s.heap H locs → W p l e ({ frames := 7, cells := 0, slots := 0, locals := 215 } : Room) s m args below meth c H locs 0 0 (MQ below (va_Qv post (mB D cs h0 s.heap.size) (fA h0 s.heap.size)) args s 0 0 (fA h0 s.heap.size)) (F0 m 2 ls [])) : ∀ (x1 : Option Nat) (x2 : Int32) (h : HS) (H : Heap) (locs : List Loc) (ls : Array Slot), wj_NJ_joinBusesOn_43 Z post K2 v0 x1 x2 h → lv_has ls 3 [(0, va_rf (some v0)), (1, va_rf x1), (2, .int x2)] → mR D cs (fA h0 s.heap.size) h s.heap H locs → W p l e ({ frames := 7, cells := 0, slots := 0, locals := 215 } : Room) s m args below meth c H locs 0 0 (MQ below (va_Qv post (mB D cs h0 s.heap.size) (fA h0 s.heap.size)) args s 0 0 (fA h0 s.heap.size)) (F0 m 43 ls []) := by
  obtain ⟨hx, hb, hr, hml, hown, hW, hlocks, hnm, hK, hZ⟩ := id C
  have hown : s.vm.findClass "NetJoins" = some m.cls := hown
  have hA : ∀ q, s.heap.size ≤ q → fA h0 s.heap.size q := fun _ h => Or.inr h
  intro x1 x2 h H locs ls hw hl hR
  unfold wj_NJ_joinBusesOn_43 at hw
  obtain ⟨y1, ey1⟩ : ∃ y : Int32, y = x2 + (1 : Int32) := ⟨_, rfl⟩
  have hw := hw y1 ey1
  refine lv_iinc (v := y1) (lv' := [(2, .int y1), (0, va_rf (some v0)), (1, va_rf x1)]) hx hb d_NJ_joinBusesOn_43 hl (k := 2) rfl (by rw [ey1]; rfl) (by decide) (by simp [mx_rf_cat]) (fun ls hl => ?_)
  refine lv_goto (tgt := 2) hx hb d_NJ_joinBusesOn_46 (by decide) ?_
  exact hK2 x1 y1 _ _ _ _ hw (lv_sub hl [1, 2, 0] rfl) hR
set_option maxHeartbeats 4000000 in
set_option maxRecDepth 100000 in
theorem mn_NJ_joinBusesOn_2 {D : va_G} {cs : CS} {Z : Nat → Nat} {h0 : HS} {p : Program} {l : Launch} {e : Env} {s : State} {m : MethodId} {args : Array Value} {below : List Frame} {meth : Method} {c : Code} {v0 : Nat} (C : mC D cs Z h0 y_NJ_joinBusesOn c_NJ_joinBusesOn 3 none p s m args meth c) (post : HS → Prop) : ∀ (n : Nat) (x1 : Option Nat) (x2 : Int32) (h : HS) (H : Heap) (locs : List Loc) (ls : Array Slot), lpF (wb_NJ_joinBusesOn_2 Z post v0) n (x1, x2, h) → lv_has ls 3 [(0, va_rf (some v0)), (1, va_rf x1), (2, .int x2)] → mR D cs (fA h0 s.heap.size) h s.heap H locs → W p l e ({ frames := 7, cells := 0, slots := 0, locals := 215 } : Room) s m args below meth c H locs 0 0 (MQ below (va_Qv post (mB D cs h0 s.heap.size) (fA h0 s.heap.size)) args s 0 0 (fA h0 s.heap.size)) (F0 m 2 ls []) := by
  obtain ⟨hx, hb, hr, hml, hown, hW, hlocks, hnm, hK, hZ⟩ := id C
  have hown : s.vm.findClass "NetJoins" = some m.cls := hown
  have hA : ∀ q, s.heap.size ≤ q → fA h0 s.heap.size q := fun _ h => Or.inr h
  intro n
  induction n with
  | zero => intro x1 x2 h H locs ls hw; exact hw.elim
  | succ n ih =>
    intro x1 x2 h H locs ls hw hl hR
    have hw : wb_NJ_joinBusesOn_2 Z post v0 (lpF (wb_NJ_joinBusesOn_2 Z post v0) n) (x1, x2, h) := hw
    unfold wb_NJ_joinBusesOn_2 at hw
    dsimp only at hw
    refine lv_iload_n hx hb d_NJ_joinBusesOn_2 rfl (lv_at hl 2 rfl) ?_
    refine mx_aload_n (r := some v0) hx hb d_NJ_joinBusesOn_3 rfl (lv_at hl 0 rfl) ?_
    obtain ⟨t1, hw⟩ := hw
    refine mx_get (ci := 0) (C := "NetJoins") (T := F_NJ) (N := 18) hx hb hW hown hK.1 hR (a := v0) rfl t1 rfl i_NJ 7 2 (by decide) rfl kw_127 (fun _ h9 => h9) d_NJ_joinBusesOn_4 ?_
    obtain ⟨a4, ea4, t5, hw⟩ := hw
    refine W.eq (g2 := F0 m 7 ls [va_rf (some a4), .int x2]) (by rw [← ea4] <;> rfl) ?_
    refine mx_calli (va_runV (b := a4) (As := []) (rest := [.int x2]) ⟨hx, hb, hml, hown, hW⟩ (mt_AL_size l D cs Z _ hw) (mx_cwV hW ok_AL_size kw_192 rfl rfl ⟨Nat.le_of_ble_eq_true rfl, Nat.le_of_ble_eq_true rfl⟩) (mx_preV hK hZ hA hR (ci := 9) rfl t5) rfl rfl hl.1 rfl (lv_room (Nat.le_of_ble_eq_true rfl)) d_NJ_joinBusesOn_7 ⟨Nat.le_of_ble_eq_true rfl, Nat.le_of_ble_eq_true rfl⟩) hR hA (fun r2 h3 H locs hw hR => ?_)
    try dsimp only at hw
    refine lv_icmp_ge (tgt := 49) hx hb d_NJ_joinBusesOn_10 (by decide) (fun c6 => ?_) (fun c6 => ?_)
    · have hw := hw.1 c6
      exact mx_vret hx hb hr hlocks hR hw d_NJ_joinBusesOn_49
    · have hw := hw.2 c6
      refine mx_aload_n (r := some v0) hx hb d_NJ_joinBusesOn_13 rfl (lv_at hl 0 rfl) ?_
      obtain ⟨t7, hw⟩ := hw
      refine mx_get (ci := 0) (C := "NetJoins") (T := F_NJ) (N := 18) hx hb hW hown hK.1 hR (a := v0) rfl t7 rfl i_NJ 7 2 (by decide) rfl kw_127 (fun _ h9 => h9) d_NJ_joinBusesOn_14 ?_
      refine lv_iload_n hx hb d_NJ_joinBusesOn_17 rfl (lv_at hl 2 rfl) ?_
      obtain ⟨a10, ea10, t11, hw⟩ := hw
      refine W.eq (g2 := F0 m 18 ls [.int x2, va_rf (some a10)]) (by rw [← ea10] <;> rfl) ?_
      refine mx_callr (va_runV (b := a10) (As := [.int x2]) (rest := []) ⟨hx, hb, hml, hown, hW⟩ (mt_AL_get l D cs Z _ hw) (mx_cwV hW ok_AL_get kw_196 rfl rfl ⟨Nat.le_of_ble_eq_true rfl, Nat.le_of_ble_eq_true rfl⟩) (mx_preV hK hZ hA hR (ci := 9) rfl t11) rfl rfl hl.1 rfl (lv_room (Nat.le_of_ble_eq_true rfl)) d_NJ_joinBusesOn_18 ⟨Nat.le_of_ble_eq_true rfl, Nat.le_of_ble_eq_true rfl⟩) hR hA (fun r8 h9 H locs hw hR => ?_)
      try dsimp only at hw
      obtain ⟨t12, hw⟩ := hw
      refine mx_cast (ci := 1) (C := "NetJoins$Bus") (T := F_Bus) (N := 4) hx hb hW hown hK.1 hR rfl kw_364 t12 d_NJ_joinBusesOn_21 ?_
      obtain ⟨a13, ea13, t14, hw⟩ := hw
      refine mx_get (ci := 1) (C := "NetJoins$Bus") (T := F_Bus) (N := 4) hx hb hW hown hK.1 hR (a := a13) ea13 t14 rfl i_Bus 0 0 (by decide) rfl kw_1061 (fun _ h9 => h9) d_NJ_joinBusesOn_24 ?_
      refine mx_aload_n (r := x1) hx hb d_NJ_joinBusesOn_27 rfl (lv_at hl 1 rfl) ?_
      obtain ⟨a15, ea15, t16, hw⟩ := hw
      refine mx_get (ci := 5) (C := "NetJoins$Sheet") (T := F_Sheet) (N := 5) hx hb hW hown hK.1 hR (a := a15) ea15 t16 rfl i_Sheet 2 0 (by decide) rfl kw_526 (fun _ h9 => h9) d_NJ_joinBusesOn_28 ?_
      refine lv_icmp_ne (tgt := 43) hx hb d_NJ_joinBusesOn_31 (by decide) (fun c17 => ?_) (fun c17 => ?_)
      · have hw := hw.1 c17
        exact mn_NJ_joinBusesOn_43 C post (lpF (wb_NJ_joinBusesOn_2 Z post v0) n) ih x1 x2 _ _ _ _ hw (lv_sub hl [0, 1, 2] rfl) hR
      · have hw := hw.2 c17
        refine mx_aload_n (r := some v0) hx hb d_NJ_joinBusesOn_34 rfl (lv_at hl 0 rfl) ?_
        refine lv_iload_n hx hb d_NJ_joinBusesOn_35 rfl (lv_at hl 2 rfl) ?_
        refine mx_aload_n (r := x1) hx hb d_NJ_joinBusesOn_36 rfl (lv_at hl 1 rfl) ?_
        obtain ⟨a18, ea18, t19, hw⟩ := hw
        refine mx_get (ci := 5) (C := "NetJoins$Sheet") (T := F_Sheet) (N := 5) hx hb hW hown hK.1 hR (a := a18) ea18 t19 rfl i_Sheet 0 0 (by decide) rfl kw_522 (fun _ h9 => h9) d_NJ_joinBusesOn_37 ?_
        obtain ⟨t22, hw⟩ := hw
        refine mx_callv (va_runV (b := v0) (As := [.int x2, .int (gI h9 500 a18)]) (rest := []) ⟨hx, hb, hml, hown, hW⟩ (mt_NJ_joinBus l D cs Z _ hw) (mx_cwV hW ok_NJ_joinBus kw_365 rfl rfl ⟨Nat.le_of_ble_eq_true rfl, Nat.le_of_ble_eq_true rfl⟩) (mx_preV hK hZ hA hR (ci := 0) rfl t22) rfl rfl hl.1 rfl (lv_room (Nat.le_of_ble_eq_true rfl)) d_NJ_joinBusesOn_40 ⟨Nat.le_of_ble_eq_true rfl, Nat.le_of_ble_eq_true rfl⟩) hR hA (fun h21 H locs hw hR => ?_)
        try dsimp only at hw
        exact mn_NJ_joinBusesOn_43 C post (lpF (wb_NJ_joinBusesOn_2 Z post v0) n) ih x1 x2 _ _ _ _ hw (lv_sub hl [0, 1, 2] rfl) hR
set_option maxHeartbeats 4000000 in
set_option maxRecDepth 100000 in
theorem mt_NJ_joinBusesOn (l : Launch) (D : va_G) (cs : CS) (Z : Nat → Nat) (sz : Nat) {post : HS → Prop} {h : HS} {v0 : Nat} {x1 : Option Nat} (hw : wp_NJ_joinBusesOn Z post h v0 x1) : Met l y_NJ_joinBusesOn (Cond.code y_NJ_joinBusesOn c_NJ_joinBusesOn 3 none :: WA) ({ frames := 7, cells := 0, slots := 0, locals := 215 } : Room) (mPc D cs Z h sz [va_rf (some v0), va_rf x1]) (va_Qv post (mB D cs h sz) (fA h sz)) 0 0 (fA h sz) := by
  refine mx_met (fun sz => va_Qv post (mB D cs h sz) (fA h sz)) (by decide) (by simp [lg_sl, mx_rf_cat, cat_i, cat_l]) ?_
  intro p e s m args below meth c C hR ls hl
  have hl : lv_has ls 3 [(0, va_rf (some v0)), (1, va_rf x1)] := by simpa [lv_args, mx_rf_cat, cat_i, cat_l] using hl
  obtain ⟨hx, hb, hr, hml, hown, hW, hlocks, hnm, hK, hZ⟩ := id C
  have hown : s.vm.findClass "NetJoins" = some m.cls := hown
  have hA : ∀ q, s.heap.size ≤ q → fA h s.heap.size q := fun _ h => Or.inr h
  unfold wp_NJ_joinBusesOn at hw
  refine lv_iconst (v := 0) hx hb d_NJ_joinBusesOn_0 (by decide) ?_
  refine lv_istore_n (i := 2) (lv' := [(2, .int (0 : Int32)), (0, va_rf (some v0)), (1, va_rf x1)]) hx hb d_NJ_joinBusesOn_1 rfl hl (by decide) (by simp [mx_rf_cat]) (fun ls hl => ?_)
  obtain ⟨n9, hw⟩ := hw
  exact mn_NJ_joinBusesOn_2 C post n9 x1 (0 : Int32) _ _ _ _ hw (lv_sub hl [1, 2, 0] rfl) hR
set_option maxHeartbeats 4000000 in
set_option maxRecDepth 100000 in
theorem mn_NJ_joinAnew_62 {D : va_G} {cs : CS} {Z : Nat → Nat} {h0 : HS} {p : Program} {l : Launch} {e : Env} {s : State} {m : MethodId} {args : Array Value} {below : List Frame} {meth : Method} {c : Code} {v0 : Nat} (C : mC D cs Z h0 y_NJ_joinAnew c_NJ_joinAnew 2 none p s m args meth c) (post : HS → Prop) : ∀ (n : Nat) (x1 : Int32) (h : HS) (H : Heap) (locs : List Loc) (ls : Array Slot), lpF (wb_NJ_joinAnew_62 Z post v0) n (x1, h) → lv_has ls 2 [(0, va_rf (some v0)), (1, .int x1)] → mR D cs (fA h0 s.heap.size) h s.heap H locs → W p l e ({ frames := 8, cells := 0, slots := 0, locals := 237 } : Room) s m args below meth c H locs 0 0 (MQ below (va_Qv post (mB D cs h0 s.heap.size) (fA h0 s.heap.size)) args s 0 0 (fA h0 s.heap.size)) (F0 m 62 ls []) := by
  obtain ⟨hx, hb, hr, hml, hown, hW, hlocks, hnm, hK, hZ⟩ := id C
  have hown : s.vm.findClass "NetJoins" = some m.cls := hown
  have hA : ∀ q, s.heap.size ≤ q → fA h0 s.heap.size q := fun _ h => Or.inr h
  intro n
  induction n with
  | zero => intro x1 h H locs ls hw; exact hw.elim
  | succ n ih =>
    intro x1 h H locs ls hw hl hR
    have hw : wb_NJ_joinAnew_62 Z post v0 (lpF (wb_NJ_joinAnew_62 Z post v0) n) (x1, h) := hw
    unfold wb_NJ_joinAnew_62 at hw
    dsimp only at hw
    refine lv_iload_n hx hb d_NJ_joinAnew_62 rfl (lv_at hl 1 rfl) ?_
    refine mx_aload_n (r := some v0) hx hb d_NJ_joinAnew_63 rfl (lv_at hl 0 rfl) ?_
    obtain ⟨t1, hw⟩ := hw
    refine mx_get (ci := 0) (C := "NetJoins") (T := F_NJ) (N := 18) hx hb hW hown hK.1 hR (a := v0) rfl t1 rfl i_NJ 6 2 (by decide) rfl kw_126 (fun _ h9 => h9) d_NJ_joinAnew_64 ?_
    obtain ⟨a4, ea4, t5, hw⟩ := hw
    refine W.eq (g2 := F0 m 67 ls [va_rf (some a4), .int x1]) (by rw [← ea4] <;> rfl) ?_
    refine mx_calli (va_runV (b := a4) (As := []) (rest := [.int x1]) ⟨hx, hb, hml, hown, hW⟩ (mt_AL_size l D cs Z _ hw) (mx_cwV hW ok_AL_size kw_192 rfl rfl ⟨Nat.le_of_ble_eq_true rfl, Nat.le_of_ble_eq_true rfl⟩) (mx_preV hK hZ hA hR (ci := 9) rfl t5) rfl rfl hl.1 rfl (lv_room (Nat.le_of_ble_eq_true rfl)) d_NJ_joinAnew_67 ⟨Nat.le_of_ble_eq_true rfl, Nat.le_of_ble_eq_true rfl⟩) hR hA (fun r2 h3 H locs hw hR => ?_)
    try dsimp only at hw
    refine lv_icmp_ge (tgt := 114) hx hb d_NJ_joinAnew_70 (by decide) (fun c6 => ?_) (fun c6 => ?_)
    · have hw := hw.1 c6
      exact mx_vret hx hb hr hlocks hR hw d_NJ_joinAnew_114
    · have hw := hw.2 c6
      refine mx_aload_n (r := some v0) hx hb d_NJ_joinAnew_73 rfl (lv_at hl 0 rfl) ?_
      obtain ⟨t7, hw⟩ := hw
      refine mx_get (ci := 0) (C := "NetJoins") (T := F_NJ) (N := 18) hx hb hW hown hK.1 hR (a := v0) rfl t7 rfl i_NJ 10 2 (by decide) rfl kw_130 (fun _ h9 => h9) d_NJ_joinAnew_74 ?_
      refine mx_aload_n (r := some v0) hx hb d_NJ_joinAnew_77 rfl (lv_at hl 0 rfl) ?_
      obtain ⟨t8, hw⟩ := hw
      refine mx_get (ci := 0) (C := "NetJoins") (T := F_NJ) (N := 18) hx hb hW hown hK.1 hR (a := v0) rfl t8 rfl i_NJ 6 2 (by decide) rfl kw_126 (fun _ h9 => h9) d_NJ_joinAnew_78 ?_
      refine lv_iload_n hx hb d_NJ_joinAnew_81 rfl (lv_at hl 1 rfl) ?_
      obtain ⟨a11, ea11, t12, hw⟩ := hw
      refine W.eq (g2 := F0 m 82 ls [.int x1, va_rf (some a11), va_rf (gR h3 10 v0)]) (by rw [← ea11] <;> rfl) ?_
      refine mx_callr (va_runV (b := a11) (As := [.int x1]) (rest := [va_rf (gR h3 10 v0)]) ⟨hx, hb, hml, hown, hW⟩ (mt_AL_get l D cs Z _ hw) (mx_cwV hW ok_AL_get kw_196 rfl rfl ⟨Nat.le_of_ble_eq_true rfl, Nat.le_of_ble_eq_true rfl⟩) (mx_preV hK hZ hA hR (ci := 9) rfl t12) rfl rfl hl.1 rfl (lv_room (by simp [mx_rf_cat, cat_i, cat_l])) d_NJ_joinAnew_82 ⟨Nat.le_of_ble_eq_true rfl, Nat.le_of_ble_eq_true rfl⟩) hR hA (fun r9 h10 H locs hw hR => ?_)
      try dsimp only at hw
      obtain ⟨t13, hw⟩ := hw
      refine mx_cast (ci := 4) (C := "NetJoins$Port") (T := F_Port) (N := 5) hx hb hW hown hK.1 hR rfl kw_389 t13 d_NJ_joinAnew_85 ?_
      obtain ⟨a14, ea14, t15, hw⟩ := hw
      refine mx_get (ci := 4) (C := "NetJoins$Port") (T := F_Port) (N := 5) hx hb hW hown hK.1 hR (a := a14) ea14 t15 rfl i_Port 3 0 (by decide) rfl kw_1030 (fun _ h9 => h9) d_NJ_joinAnew_88 ?_
      refine mx_aload_n (r := some v0) hx hb d_NJ_joinAnew_91 rfl (lv_at hl 0 rfl) ?_
      obtain ⟨t16, hw⟩ := hw
      refine mx_get (ci := 0) (C := "NetJoins") (T := F_NJ) (N := 18) hx hb hW hown hK.1 hR (a := v0) rfl t16 rfl i_NJ 6 2 (by decide) rfl kw_126 (fun _ h9 => h9) d_NJ_joinAnew_92 ?_
      refine lv_iload_n hx hb d_NJ_joinAnew_95 rfl (lv_at hl 1 rfl) ?_
      obtain ⟨a19, ea19, t20, hw⟩ := hw
      refine W.eq (g2 := F0 m 96 ls [.int x1, va_rf (some a19), .int (gI h10 403 a14), va_rf (gR h3 10 v0)]) (by rw [← ea19] <;> rfl) ?_
      refine mx_callr (va_runV (b := a19) (As := [.int x1]) (rest := [.int (gI h10 403 a14), va_rf (gR h3 10 v0)]) ⟨hx, hb, hml, hown, hW⟩ (mt_AL_get l D cs Z _ hw) (mx_cwV hW ok_AL_get kw_196 rfl rfl ⟨Nat.le_of_ble_eq_true rfl, Nat.le_of_ble_eq_true rfl⟩) (mx_preV hK hZ hA hR (ci := 9) rfl t20) rfl rfl hl.1 rfl (lv_room (by simp [mx_rf_cat, cat_i, cat_l])) d_NJ_joinAnew_96 ⟨Nat.le_of_ble_eq_true rfl, Nat.le_of_ble_eq_true rfl⟩) hR hA (fun r17 h18 H locs hw hR => ?_)
      try dsimp only at hw
      obtain ⟨t21, hw⟩ := hw
      refine mx_cast (ci := 4) (C := "NetJoins$Port") (T := F_Port) (N := 5) hx hb hW hown hK.1 hR rfl kw_389 t21 d_NJ_joinAnew_99 ?_
      obtain ⟨a22, ea22, t23, hw⟩ := hw
      refine mx_get (ci := 4) (C := "NetJoins$Port") (T := F_Port) (N := 5) hx hb hW hown hK.1 hR (a := a22) ea22 t23 rfl i_Port 4 0 (by decide) rfl kw_1032 (fun _ h9 => h9) d_NJ_joinAnew_102 ?_
      obtain ⟨a26, ea26, t27, hw⟩ := hw
      refine W.eq (g2 := F0 m 105 ls [.int (gI h18 404 a22), .int (gI h10 403 a14), va_rf (some a26)]) (by rw [← ea26] <;> rfl) ?_
      refine mx_callv (va_runV (b := a26) (As := [.int (gI h10 403 a14), .int (gI h18 404 a22)]) (rest := []) ⟨hx, hb, hml, hown, hW⟩ (mt_Joins_join l D cs Z _ hw) (mx_cwV hW ok_Joins_join kw_326 rfl rfl ⟨Nat.le_of_ble_eq_true rfl, Nat.le_of_ble_eq_true rfl⟩) (mx_preV hK hZ hA hR (ci := 2) rfl t27) rfl rfl hl.1 rfl (lv_room (Nat.le_of_ble_eq_true rfl)) d_NJ_joinAnew_105 ⟨Nat.le_of_ble_eq_true rfl, Nat.le_of_ble_eq_true rfl⟩) hR hA (fun h25 H locs hw hR => ?_)
      try dsimp only at hw
      obtain ⟨y28, ey28⟩ : ∃ y : Int32, y = x1 + (1 : Int32) := ⟨_, rfl⟩
      have hw := hw y28 ey28
      refine lv_iinc (v := y28) (lv' := [(1, .int y28), (0, va_rf (some v0))]) hx hb d_NJ_joinAnew_108 hl (k := 1) rfl (by rw [ey28]; rfl) (by decide) rfl (fun ls hl => ?_)
      refine lv_goto (tgt := 62) hx hb d_NJ_joinAnew_111 (by decide) ?_
      exact ih y28 _ _ _ _ hw (lv_sub hl [1, 0] rfl) hR
set_option maxHeartbeats 4000000 in
set_option maxRecDepth 100000 in
theorem mn_NJ_joinAnew_13 {D : va_G} {cs : CS} {Z : Nat → Nat} {h0 : HS} {p : Program} {l : Launch} {e : Env} {s : State} {m : MethodId} {args : Array Value} {below : List Frame} {meth : Method} {c : Code} {v0 : Nat} (C : mC D cs Z h0 y_NJ_joinAnew c_NJ_joinAnew 2 none p s m args meth c) (post : HS → Prop) : ∀ (n : Nat) (x1 : Int32) (h : HS) (H : Heap) (locs : List Loc) (ls : Array Slot), lpF (wb_NJ_joinAnew_13 Z post v0) n (x1, h) → lv_has ls 2 [(0, va_rf (some v0)), (1, .int x1)] → mR D cs (fA h0 s.heap.size) h s.heap H locs → W p l e ({ frames := 8, cells := 0, slots := 0, locals := 237 } : Room) s m args below meth c H locs 0 0 (MQ below (va_Qv post (mB D cs h0 s.heap.size) (fA h0 s.heap.size)) args s 0 0 (fA h0 s.heap.size)) (F0 m 13 ls []) := by
  obtain ⟨hx, hb, hr, hml, hown, hW, hlocks, hnm, hK, hZ⟩ := id C
  have hown : s.vm.findClass "NetJoins" = some m.cls := hown
  have hA : ∀ q, s.heap.size ≤ q → fA h0 s.heap.size q := fun _ h => Or.inr h
  intro n
  induction n with
  | zero => intro x1 h H locs ls hw; exact hw.elim
  | succ n ih =>
    intro x1 h H locs ls hw hl hR
    have hw : wb_NJ_joinAnew_13 Z post v0 (lpF (wb_NJ_joinAnew_13 Z post v0) n) (x1, h) := hw
    unfold wb_NJ_joinAnew_13 at hw
    dsimp only at hw
    refine lv_iload_n hx hb d_NJ_joinAnew_13 rfl (lv_at hl 1 rfl) ?_
    refine mx_aload_n (r := some v0) hx hb d_NJ_joinAnew_14 rfl (lv_at hl 0 rfl) ?_
    obtain ⟨t1, hw⟩ := hw
    refine mx_get (ci := 0) (C := "NetJoins") (T := F_NJ) (N := 18) hx hb hW hown hK.1 hR (a := v0) rfl t1 rfl i_NJ 0 2 (by decide) rfl kw_120 (fun _ h9 => h9) d_NJ_joinAnew_15 ?_
    obtain ⟨a4, ea4, t5, hw⟩ := hw
    refine W.eq (g2 := F0 m 18 ls [va_rf (some a4), .int x1]) (by rw [← ea4] <;> rfl) ?_
    refine mx_calli (va_runV (b := a4) (As := []) (rest := [.int x1]) ⟨hx, hb, hml, hown, hW⟩ (mt_AL_size l D cs Z _ hw) (mx_cwV hW ok_AL_size kw_192 rfl rfl ⟨Nat.le_of_ble_eq_true rfl, Nat.le_of_ble_eq_true rfl⟩) (mx_preV hK hZ hA hR (ci := 9) rfl t5) rfl rfl hl.1 rfl (lv_room (Nat.le_of_ble_eq_true rfl)) d_NJ_joinAnew_18 ⟨Nat.le_of_ble_eq_true rfl, Nat.le_of_ble_eq_true rfl⟩) hR hA (fun r2 h3 H locs hw hR => ?_)
    try dsimp only at hw
    refine lv_icmp_ge (tgt := 60) hx hb d_NJ_joinAnew_21 (by decide) (fun c6 => ?_) (fun c6 => ?_)
    · have hw := hw.1 c6
      refine lv_iconst (v := 0) hx hb d_NJ_joinAnew_60 (by decide) ?_
      refine lv_istore_n (i := 1) (lv' := [(1, .int (0 : Int32)), (0, va_rf (some v0))]) hx hb d_NJ_joinAnew_61 rfl hl (by decide) rfl (fun ls hl => ?_)
      obtain ⟨n9, hw⟩ := hw
      exact mn_NJ_joinAnew_62 C post n9 (0 : Int32) _ _ _ _ hw (lv_sub hl [1, 0] rfl) hR
    · have hw := hw.2 c6
      refine mx_aload_n (r := some v0) hx hb d_NJ_joinAnew_24 rfl (lv_at hl 0 rfl) ?_
      refine mx_aload_n (r := some v0) hx hb d_NJ_joinAnew_25 rfl (lv_at hl 0 rfl) ?_
      obtain ⟨t7, hw⟩ := hw
      refine mx_get (ci := 0) (C := "NetJoins") (T := F_NJ) (N := 18) hx hb hW hown hK.1 hR (a := v0) rfl t7 rfl i_NJ 0 2 (by decide) rfl kw_120 (fun _ h9 => h9) d_NJ_joinAnew_26 ?_
      refine lv_iload_n hx hb d_NJ_joinAnew_29 rfl (lv_at hl 1 rfl) ?_
      obtain ⟨a10, ea10, t11, hw⟩ := hw
      refine W.eq (g2 := F0 m 30 ls [.int x1, va_rf (some a10), va_rf (some v0)]) (by rw [← ea10] <;> rfl) ?_
      refine mx_callr (va_runV (b := a10) (As := [.int x1]) (rest := [va_rf (some v0)]) ⟨hx, hb, hml, hown, hW⟩ (mt_AL_get l D cs Z _ hw) (mx_cwV hW ok_AL_get kw_196 rfl rfl ⟨Nat.le_of_ble_eq_true rfl, Nat.le_of_ble_eq_true rfl⟩) (mx_preV hK hZ hA hR (ci := 9) rfl t11) rfl rfl hl.1 rfl (lv_room (Nat.le_of_ble_eq_true rfl)) d_NJ_joinAnew_30 ⟨Nat.le_of_ble_eq_true rfl, Nat.le_of_ble_eq_true rfl⟩) hR hA (fun r8 h9 H locs hw hR => ?_)
      try dsimp only at hw
      obtain ⟨t12, hw⟩ := hw
      refine mx_cast (ci := 5) (C := "NetJoins$Sheet") (T := F_Sheet) (N := 5) hx hb hW hown hK.1 hR rfl kw_211 t12 d_NJ_joinAnew_33 ?_
      obtain ⟨t15, hw⟩ := hw
      refine mx_callv (va_runV (b := v0) (As := [va_rf r8]) (rest := []) ⟨hx, hb, hml, hown, hW⟩ (mt_NJ_spreadOn l D cs Z _ hw) (mx_cwV hW ok_NJ_spreadOn kw_348 rfl rfl ⟨Nat.le_of_ble_eq_true rfl, Nat.le_of_ble_eq_true rfl⟩) (mx_preV hK hZ hA hR (ci := 0) rfl t15) rfl rfl hl.1 rfl (lv_room (Nat.le_of_ble_eq_true rfl)) d_NJ_joinAnew_36 ⟨Nat.le_of_ble_eq_true rfl, Nat.le_of_ble_eq_true rfl⟩) hR hA (fun h14 H locs hw hR => ?_)
      try dsimp only at hw
      refine mx_aload_n (r := some v0) hx hb d_NJ_joinAnew_39 rfl (lv_at hl 0 rfl) ?_
      refine mx_aload_n (r := some v0) hx hb d_NJ_joinAnew_40 rfl (lv_at hl 0 rfl) ?_
      obtain ⟨t16, hw⟩ := hw
      refine mx_get (ci := 0) (C := "NetJoins") (T := F_NJ) (N := 18) hx hb hW hown hK.1 hR (a := v0) rfl t16 rfl i_NJ 0 2 (by decide) rfl kw_120 (fun _ h9 => h9) d_NJ_joinAnew_41 ?_
      refine lv_iload_n hx hb d_NJ_joinAnew_44 rfl (lv_at hl 1 rfl) ?_
      obtain ⟨a19, ea19, t20, hw⟩ := hw
      refine W.eq (g2 := F0 m 45 ls [.int x1, va_rf (some a19), va_rf (some v0)]) (by rw [← ea19] <;> rfl) ?_
      refine mx_callr (va_runV (b := a19) (As := [.int x1]) (rest := [va_rf (some v0)]) ⟨hx, hb, hml, hown, hW⟩ (mt_AL_get l D cs Z _ hw) (mx_cwV hW ok_AL_get kw_196 rfl rfl ⟨Nat.le_of_ble_eq_true rfl, Nat.le_of_ble_eq_true rfl⟩) (mx_preV hK hZ hA hR (ci := 9) rfl t20) rfl rfl hl.1 rfl (lv_room (Nat.le_of_ble_eq_true rfl)) d_NJ_joinAnew_45 ⟨Nat.le_of_ble_eq_true rfl, Nat.le_of_ble_eq_true rfl⟩) hR hA (fun r17 h18 H locs hw hR => ?_)
      try dsimp only at hw
      obtain ⟨t21, hw⟩ := hw
      refine mx_cast (ci := 5) (C := "NetJoins$Sheet") (T := F_Sheet) (N := 5) hx hb hW hown hK.1 hR rfl kw_211 t21 d_NJ_joinAnew_48 ?_
      obtain ⟨t24, hw⟩ := hw
      refine mx_callv (va_runV (b := v0) (As := [va_rf r17]) (rest := []) ⟨hx, hb, hml, hown, hW⟩ (mt_NJ_joinBusesOn l D cs Z _ hw) (mx_cwV hW ok_NJ_joinBusesOn kw_360 rfl rfl ⟨Nat.le_of_ble_eq_true rfl, Nat.le_of_ble_eq_true rfl⟩) (mx_preV hK hZ hA hR (ci := 0) rfl t24) rfl rfl hl.1 rfl (lv_room (Nat.le_of_ble_eq_true rfl)) d_NJ_joinAnew_51 ⟨Nat.le_of_ble_eq_true rfl, Nat.le_of_ble_eq_true rfl⟩) hR hA (fun h23 H locs hw hR => ?_)
      try dsimp only at hw
      obtain ⟨y25, ey25⟩ : ∃ y : Int32, y = x1 + (1 : Int32) := ⟨_, rfl⟩
      have hw := hw y25 ey25
      refine lv_iinc (v := y25) (lv' := [(1, .int y25), (0, va_rf (some v0))]) hx hb d_NJ_joinAnew_54 hl (k := 1) rfl (by rw [ey25]; rfl) (by decide) rfl (fun ls hl => ?_)
      refine lv_goto (tgt := 13) hx hb d_NJ_joinAnew_57 (by decide) ?_
      exact ih y25 _ _ _ _ hw (lv_sub hl [1, 0] rfl) hR
set_option maxHeartbeats 4000000 in
set_option maxRecDepth 100000 in
theorem mt_NJ_joinAnew (l : Launch) (D : va_G) (cs : CS) (Z : Nat → Nat) (sz : Nat) {post : HS → Prop} {h : HS} {v0 : Nat}  (hw : wp_NJ_joinAnew Z post h v0 ) : Met l y_NJ_joinAnew (Cond.code y_NJ_joinAnew c_NJ_joinAnew 2 none :: WA) ({ frames := 8, cells := 0, slots := 0, locals := 237 } : Room) (mPc D cs Z h sz [va_rf (some v0)]) (va_Qv post (mB D cs h sz) (fA h sz)) 0 0 (fA h sz) := by
  refine mx_met (fun sz => va_Qv post (mB D cs h sz) (fA h sz)) (by decide) (by simp [lg_sl, mx_rf_cat, cat_i, cat_l]) ?_
  intro p e s m args below meth c C hR ls hl
  have hl : lv_has ls 2 [(0, va_rf (some v0))] := hl
  obtain ⟨hx, hb, hr, hml, hown, hW, hlocks, hnm, hK, hZ⟩ := id C
  have hown : s.vm.findClass "NetJoins" = some m.cls := hown
  have hA : ∀ q, s.heap.size ≤ q → fA h s.heap.size q := fun _ h => Or.inr h
  unfold wp_NJ_joinAnew at hw
  refine mx_aload_n (r := some v0) hx hb d_NJ_joinAnew_0 rfl (lv_at hl 0 rfl) ?_
  obtain ⟨t3, hw⟩ := hw
  refine mx_callv (va_runV (b := v0) (As := []) (rest := []) ⟨hx, hb, hml, hown, hW⟩ (mt_NJ_touchAnew l D cs Z _ hw) (mx_cwV hW ok_NJ_touchAnew kw_302 rfl rfl ⟨Nat.le_of_ble_eq_true rfl, Nat.le_of_ble_eq_true rfl⟩) (mx_preV hK hZ hA hR (ci := 0) rfl t3) rfl rfl hl.1 rfl (lv_room (Nat.le_of_ble_eq_true rfl)) d_NJ_joinAnew_1 ⟨Nat.le_of_ble_eq_true rfl, Nat.le_of_ble_eq_true rfl⟩) hR hA (fun h2 H locs hw hR => ?_)
  try dsimp only at hw
  refine mx_aload_n (r := some v0) hx hb d_NJ_joinAnew_4 rfl (lv_at hl 0 rfl) ?_
  obtain ⟨t4, hw⟩ := hw
  refine mx_get (ci := 0) (C := "NetJoins") (T := F_NJ) (N := 18) hx hb hW hown hK.1 hR (a := v0) rfl t4 rfl i_NJ 10 2 (by decide) rfl kw_130 (fun _ h9 => h9) d_NJ_joinAnew_5 ?_
  obtain ⟨a7, ea7, t8, hw⟩ := hw
  refine W.eq (g2 := F0 m 8 ls [va_rf (some a7)]) (by rw [← ea7] <;> rfl) ?_
  refine mx_callv (va_runV (b := a7) (As := []) (rest := []) ⟨hx, hb, hml, hown, hW⟩ (mt_Joins_scatter l D cs Z _ hw) (mx_cwV hW ok_Joins_scatter kw_306 rfl rfl ⟨Nat.le_of_ble_eq_true rfl, Nat.le_of_ble_eq_true rfl⟩) (mx_preV hK hZ hA hR (ci := 2) rfl t8) rfl rfl hl.1 rfl (lv_room (Nat.le_of_ble_eq_true rfl)) d_NJ_joinAnew_8 ⟨Nat.le_of_ble_eq_true rfl, Nat.le_of_ble_eq_true rfl⟩) hR hA (fun h6 H locs hw hR => ?_)
  try dsimp only at hw
  refine lv_iconst (v := 0) hx hb d_NJ_joinAnew_11 (by decide) ?_
  refine lv_istore_n (i := 1) (lv' := [(1, .int (0 : Int32)), (0, va_rf (some v0))]) hx hb d_NJ_joinAnew_12 rfl hl (by decide) rfl (fun ls hl => ?_)
  obtain ⟨n9, hw⟩ := hw
  exact mn_NJ_joinAnew_13 C post n9 (0 : Int32) _ _ _ _ hw (lv_sub hl [1, 0] rfl) hR
set_option maxHeartbeats 4000000 in
set_option maxRecDepth 100000 in
theorem mn_NJ_countNets_41 {D : va_G} {cs : CS} {Z : Nat → Nat} {h0 : HS} {p : Program} {l : Launch} {e : Env} {s : State} {m : MethodId} {args : Array Value} {below : List Frame} {meth : Method} {c : Code} {v0 : Nat} (C : mC D cs Z h0 y_NJ_countNets c_NJ_countNets 5 none p s m args meth c) (post : HS → Prop) (K9 : Int32 × HS → Prop) (hK9 : ∀ (x1 : Int32) (h : HS) (H : Heap) (locs : List Loc) (ls : Array Slot), K9 (x1, h) → lv_has ls 5 [(0, va_rf (some v0)), (1, .int x1)] → mR D cs (fA h0 s.heap.size) h s.heap H locs → W p l e ({ frames := 6, cells := 0, slots := 0, locals := 185 } : Room) s m args below meth c H locs 0 0 (MQ below (va_Qv post (mB D cs h0 s.heap.size) (fA h0 s.heap.size)) args s 0 0 (fA h0 s.heap.size)) (F0 m 9 ls [])) : ∀ (n : Nat) (x1 : Int32) (x2 : Int32) (x3 : Int32) (h : HS) (H : Heap) (locs : List Loc) (ls : Array Slot), lpF (wb_NJ_countNets_41 Z post K9 v0) n (x1, x2, x3, h) → lv_has ls 5 [(0, va_rf (some v0)), (1, .int x1), (2, .int x2), (3, .int x3)] → mR D cs (fA h0 s.heap.size) h s.heap H locs → W p l e ({ frames := 6, cells := 0, slots := 0, locals := 185 } : Room) s m args below meth c H locs 0 0 (MQ below (va_Qv post (mB D cs h0 s.heap.size) (fA h0 s.heap.size)) args s 0 0 (fA h0 s.heap.size)) (F0 m 41 ls []) := by
  obtain ⟨hx, hb, hr, hml, hown, hW, hlocks, hnm, hK, hZ⟩ := id C
  have hown : s.vm.findClass "NetJoins" = some m.cls := hown
  have hA : ∀ q, s.heap.size ≤ q → fA h0 s.heap.size q := fun _ h => Or.inr h
  intro n
  induction n with
  | zero => intro x1 x2 x3 h H locs ls hw; exact hw.elim
  | succ n ih =>
    intro x1 x2 x3 h H locs ls hw hl hR
    have hw : wb_NJ_countNets_41 Z post K9 v0 (lpF (wb_NJ_countNets_41 Z post K9 v0) n) (x1, x2, x3, h) := hw
    unfold wb_NJ_countNets_41 at hw
    dsimp only at hw
    refine lv_iload_n hx hb d_NJ_countNets_41 rfl (lv_at hl 3 rfl) ?_
    refine lv_iload_n hx hb d_NJ_countNets_42 rfl (lv_at hl 2 rfl) ?_
    refine lv_icmp_ge (tgt := 77) hx hb d_NJ_countNets_43 (by decide) (fun c1 => ?_) (fun c1 => ?_)
    · have hw := hw.1 c1
      obtain ⟨y2, ey2⟩ : ∃ y : Int32, y = x1 + (1 : Int32) := ⟨_, rfl⟩
      have hw := hw y2 ey2
      refine lv_iinc (v := y2) (lv' := [(1, .int y2), (0, va_rf (some v0)), (2, .int x2), (3, .int x3)]) hx hb d_NJ_countNets_77 hl (k := 1) rfl (by rw [ey2]; rfl) (by decide) rfl (fun ls hl => ?_)
      refine lv_goto (tgt := 9) hx hb d_NJ_countNets_80 (by decide) ?_
      exact hK9 y2 _ _ _ _ hw (lv_sub hl [1, 0] rfl) hR
    · have hw := hw.2 c1
      refine lv_iload_n hx hb d_NJ_countNets_46 rfl (lv_at hl 1 rfl) ?_
      refine lv_iload_n hx hb d_NJ_countNets_47 rfl (lv_at hl 3 rfl) ?_
      refine mx_calli (va_runS (As := [.int x1, .int x3]) (rest := []) ⟨hx, hb, hml, hown, hW⟩ (mt_NJ_pinNode l D cs Z _ hw) (mx_cwS hW ok_NJ_pinNode kw_283 rfl rfl ⟨Nat.le_of_ble_eq_true rfl, Nat.le_of_ble_eq_true rfl⟩) (mx_preS hK hZ hA hR) rfl rfl hl.1 rfl (lv_room (Nat.le_of_ble_eq_true rfl)) d_NJ_countNets_48 ⟨Nat.le_of_ble_eq_true rfl, Nat.le_of_ble_eq_true rfl⟩) hR hA (fun r3 h4 H locs hw hR => ?_)
      try dsimp only at hw
      refine lv_istore (i := 4) (lv' := [(4, .int r3), (0, va_rf (some v0)), (1, .int x1), (2, .int x2), (3, .int x3)]) hx hb d_NJ_countNets_51 hl (by decide) rfl (fun ls hl => ?_)
      refine mx_aload_n (r := some v0) hx hb d_NJ_countNets_53 rfl (lv_at hl 1 rfl) ?_
      obtain ⟨t5, hw⟩ := hw
      refine mx_get (ci := 0) (C := "NetJoins") (T := F_NJ) (N := 18) hx hb hW hown hK.1 hR (a := v0) rfl t5 rfl i_NJ 11 2 (by decide) rfl kw_131 (fun _ h9 => h9) d_NJ_countNets_54 ?_
      refine lv_iload hx hb d_NJ_countNets_57 (lv_at hl 0 rfl) ?_
      refine mx_aload_n (r := some v0) hx hb d_NJ_countNets_59 rfl (lv_at hl 1 rfl) ?_
      obtain ⟨t6, hw⟩ := hw
      refine mx_get (ci := 0) (C := "NetJoins") (T := F_NJ) (N := 18) hx hb hW hown hK.1 hR (a := v0) rfl t6 rfl i_NJ 10 2 (by decide) rfl kw_130 (fun _ h9 => h9) d_NJ_countNets_60 ?_
      refine lv_iload hx hb d_NJ_countNets_63 (lv_at hl 0 rfl) ?_
      obtain ⟨a9, ea9, t10, hw⟩ := hw
      refine W.eq (g2 := F0 m 65 ls [.int r3, va_rf (some a9), .int r3, va_rf (gR h4 11 v0)]) (by rw [← ea9] <;> rfl) ?_
      refine mx_calli (va_runV (b := a9) (As := [.int r3]) (rest := [.int r3, va_rf (gR h4 11 v0)]) ⟨hx, hb, hml, hown, hW⟩ (mt_Joins_root l D cs Z _ hw) (mx_cwV hW ok_Joins_root kw_223 rfl rfl ⟨Nat.le_of_ble_eq_true rfl, Nat.le_of_ble_eq_true rfl⟩) (mx_preV hK hZ hA hR (ci := 2) rfl t10) rfl rfl hl.1 rfl (lv_room (by simp [mx_rf_cat, cat_i, cat_l])) d_NJ_countNets_65 ⟨Nat.le_of_ble_eq_true rfl, Nat.le_of_ble_eq_true rfl⟩) hR hA (fun r7 h8 H locs hw hR => ?_)
      try dsimp only at hw
      obtain ⟨a13, ea13, t14, hw⟩ := hw
      refine W.eq (g2 := F0 m 68 ls [.int r7, .int r3, va_rf (some a13)]) (by rw [← ea13] <;> rfl) ?_
      refine mx_callv (va_runV (b := a13) (As := [.int r3, .int r7]) (rest := []) ⟨hx, hb, hml, hown, hW⟩ (mt_Tab_put l D cs Z _ hw) (mx_cwV hW ok_Tab_put kw_398 rfl rfl ⟨Nat.le_of_ble_eq_true rfl, Nat.le_of_ble_eq_true rfl⟩) (mx_preV hK hZ hA hR (ci := 3) rfl t14) rfl rfl hl.1 rfl (lv_room (Nat.le_of_ble_eq_true rfl)) d_NJ_countNets_68 ⟨Nat.le_of_ble_eq_true rfl, Nat.le_of_ble_eq_true rfl⟩) hR hA (fun h12 H locs hw hR => ?_)
      try dsimp only at hw
      obtain ⟨y15, ey15⟩ : ∃ y : Int32, y = x3 + (1 : Int32) := ⟨_, rfl⟩
      have hw := hw y15 ey15
      refine lv_iinc (v := y15) (lv' := [(3, .int y15), (4, .int r3), (0, va_rf (some v0)), (1, .int x1), (2, .int x2)]) hx hb d_NJ_countNets_71 hl (k := 4) rfl (by rw [ey15]; rfl) (by decide) rfl (fun ls hl => ?_)
      refine lv_goto (tgt := 41) hx hb d_NJ_countNets_74 (by decide) ?_
      exact ih x1 x2 y15 _ _ _ _ hw (lv_sub hl [2, 3, 4, 0] rfl) hR
set_option maxHeartbeats 4000000 in
set_option maxRecDepth 100000 in
theorem mn_NJ_countNets_9 {D : va_G} {cs : CS} {Z : Nat → Nat} {h0 : HS} {p : Program} {l : Launch} {e : Env} {s : State} {m : MethodId} {args : Array Value} {below : List Frame} {meth : Method} {c : Code} {v0 : Nat} (C : mC D cs Z h0 y_NJ_countNets c_NJ_countNets 5 none p s m args meth c) (post : HS → Prop) : ∀ (n : Nat) (x1 : Int32) (h : HS) (H : Heap) (locs : List Loc) (ls : Array Slot), lpF (wb_NJ_countNets_9 Z post v0) n (x1, h) → lv_has ls 5 [(0, va_rf (some v0)), (1, .int x1)] → mR D cs (fA h0 s.heap.size) h s.heap H locs → W p l e ({ frames := 6, cells := 0, slots := 0, locals := 185 } : Room) s m args below meth c H locs 0 0 (MQ below (va_Qv post (mB D cs h0 s.heap.size) (fA h0 s.heap.size)) args s 0 0 (fA h0 s.heap.size)) (F0 m 9 ls []) := by
  obtain ⟨hx, hb, hr, hml, hown, hW, hlocks, hnm, hK, hZ⟩ := id C
  have hown : s.vm.findClass "NetJoins" = some m.cls := hown
  have hA : ∀ q, s.heap.size ≤ q → fA h0 s.heap.size q := fun _ h => Or.inr h
  intro n
  induction n with
  | zero => intro x1 h H locs ls hw; exact hw.elim
  | succ n ih =>
    intro x1 h H locs ls hw hl hR
    have hw : wb_NJ_countNets_9 Z post v0 (lpF (wb_NJ_countNets_9 Z post v0) n) (x1, h) := hw
    unfold wb_NJ_countNets_9 at hw
    dsimp only at hw
    refine lv_iload_n hx hb d_NJ_countNets_9 rfl (lv_at hl 1 rfl) ?_
    refine mx_aload_n (r := some v0) hx hb d_NJ_countNets_10 rfl (lv_at hl 0 rfl) ?_
    obtain ⟨t1, hw⟩ := hw
    refine mx_get (ci := 0) (C := "NetJoins") (T := F_NJ) (N := 18) hx hb hW hown hK.1 hR (a := v0) rfl t1 rfl i_NJ 5 2 (by decide) rfl kw_125 (fun _ h9 => h9) d_NJ_countNets_11 ?_
    obtain ⟨a4, ea4, t5, hw⟩ := hw
    refine W.eq (g2 := F0 m 14 ls [va_rf (some a4), .int x1]) (by rw [← ea4] <;> rfl) ?_
    refine mx_calli (va_runV (b := a4) (As := []) (rest := [.int x1]) ⟨hx, hb, hml, hown, hW⟩ (mt_AL_size l D cs Z _ hw) (mx_cwV hW ok_AL_size kw_192 rfl rfl ⟨Nat.le_of_ble_eq_true rfl, Nat.le_of_ble_eq_true rfl⟩) (mx_preV hK hZ hA hR (ci := 9) rfl t5) rfl rfl hl.1 rfl (lv_room (Nat.le_of_ble_eq_true rfl)) d_NJ_countNets_14 ⟨Nat.le_of_ble_eq_true rfl, Nat.le_of_ble_eq_true rfl⟩) hR hA (fun r2 h3 H locs hw hR => ?_)
    try dsimp only at hw
    refine lv_icmp_ge (tgt := 83) hx hb d_NJ_countNets_17 (by decide) (fun c6 => ?_) (fun c6 => ?_)
    · have hw := hw.1 c6
      exact mx_vret hx hb hr hlocks hR hw d_NJ_countNets_83
    · have hw := hw.2 c6
      refine mx_aload_n (r := some v0) hx hb d_NJ_countNets_20 rfl (lv_at hl 0 rfl) ?_
      refine mx_aload_n (r := some v0) hx hb d_NJ_countNets_21 rfl (lv_at hl 0 rfl) ?_
      obtain ⟨t7, hw⟩ := hw
      refine mx_get (ci := 0) (C := "NetJoins") (T := F_NJ) (N := 18) hx hb hW hown hK.1 hR (a := v0) rfl t7 rfl i_NJ 5 2 (by decide) rfl kw_125 (fun _ h9 => h9) d_NJ_countNets_22 ?_
      refine lv_iload_n hx hb d_NJ_countNets_25 rfl (lv_at hl 1 rfl) ?_
      obtain ⟨a10, ea10, t11, hw⟩ := hw
      refine W.eq (g2 := F0 m 26 ls [.int x1, va_rf (some a10), va_rf (some v0)]) (by rw [← ea10] <;> rfl) ?_
      refine mx_callr (va_runV (b := a10) (As := [.int x1]) (rest := [va_rf (some v0)]) ⟨hx, hb, hml, hown, hW⟩ (mt_AL_get l D cs Z _ hw) (mx_cwV hW ok_AL_get kw_196 rfl rfl ⟨Nat.le_of_ble_eq_true rfl, Nat.le_of_ble_eq_true rfl⟩) (mx_preV hK hZ hA hR (ci := 9) rfl t11) rfl rfl hl.1 rfl (lv_room (Nat.le_of_ble_eq_true rfl)) d_NJ_countNets_26 ⟨Nat.le_of_ble_eq_true rfl, Nat.le_of_ble_eq_true rfl⟩) hR hA (fun r8 h9 H locs hw hR => ?_)
      try dsimp only at hw
      obtain ⟨t12, hw⟩ := hw
      refine mx_cast (ci := 6) (C := "NetJoins$Spot") (T := F_Spot) (N := 6) hx hb hW hown hK.1 hR rfl kw_210 t12 d_NJ_countNets_29 ?_
      obtain ⟨a13, ea13, t14, hw⟩ := hw
      refine mx_get (ci := 6) (C := "NetJoins$Spot") (T := F_Spot) (N := 6) hx hb hW hown hK.1 hR (a := a13) ea13 t14 rfl i_Spot 0 0 (by decide) rfl kw_700 (fun _ h9 => h9) d_NJ_countNets_32 ?_
      obtain ⟨t17, hw⟩ := hw
      refine mx_calli (va_runV (b := v0) (As := [.int (gI h9 600 a13)]) (rest := []) ⟨hx, hb, hml, hown, hW⟩ (mt_NJ_copiesOf l D cs Z _ hw) (mx_cwV hW ok_NJ_copiesOf kw_279 rfl rfl ⟨Nat.le_of_ble_eq_true rfl, Nat.le_of_ble_eq_true rfl⟩) (mx_preV hK hZ hA hR (ci := 0) rfl t17) rfl rfl hl.1 rfl (lv_room (Nat.le_of_ble_eq_true rfl)) d_NJ_countNets_35 ⟨Nat.le_of_ble_eq_true rfl, Nat.le_of_ble_eq_true rfl⟩) hR hA (fun r15 h16 H locs hw hR => ?_)
      try dsimp only at hw
      refine lv_istore_n (i := 2) (lv' := [(2, .int r15), (0, va_rf (some v0)), (1, .int x1)]) hx hb d_NJ_countNets_38 rfl hl (by decide) rfl (fun ls hl => ?_)
      refine lv_iconst (v := 0) hx hb d_NJ_countNets_39 (by decide) ?_
      refine lv_istore_n (i := 3) (lv' := [(3, .int (0 : Int32)), (2, .int r15), (0, va_rf (some v0)), (1, .int x1)]) hx hb d_NJ_countNets_40 rfl hl (by decide) rfl (fun ls hl => ?_)
      obtain ⟨n9, hw⟩ := hw
      exact mn_NJ_countNets_41 C post (lpF (wb_NJ_countNets_9 Z post v0) n) ih n9 x1 r15 (0 : Int32) _ _ _ _ hw (lv_sub hl [2, 3, 1, 0] rfl) hR
set_option maxHeartbeats 4000000 in
set_option maxRecDepth 100000 in
theorem mt_NJ_countNets (l : Launch) (D : va_G) (cs : CS) (Z : Nat → Nat) (sz : Nat) {post : HS → Prop} {h : HS} {v0 : Nat}  (hw : wp_NJ_countNets Z post h v0 ) : Met l y_NJ_countNets (Cond.code y_NJ_countNets c_NJ_countNets 5 none :: WA) ({ frames := 6, cells := 0, slots := 0, locals := 185 } : Room) (mPc D cs Z h sz [va_rf (some v0)]) (va_Qv post (mB D cs h sz) (fA h sz)) 0 0 (fA h sz) := by
  refine mx_met (fun sz => va_Qv post (mB D cs h sz) (fA h sz)) (by decide) (by simp [lg_sl, mx_rf_cat, cat_i, cat_l]) ?_
  intro p e s m args below meth c C hR ls hl
  have hl : lv_has ls 5 [(0, va_rf (some v0))] := hl
  obtain ⟨hx, hb, hr, hml, hown, hW, hlocks, hnm, hK, hZ⟩ := id C
  have hown : s.vm.findClass "NetJoins" = some m.cls := hown
  have hA : ∀ q, s.heap.size ≤ q → fA h s.heap.size q := fun _ h => Or.inr h
  unfold wp_NJ_countNets at hw
  refine mx_aload_n (r := some v0) hx hb d_NJ_countNets_0 rfl (lv_at hl 0 rfl) ?_
  obtain ⟨t1, hw⟩ := hw
  refine mx_get (ci := 0) (C := "NetJoins") (T := F_NJ) (N := 18) hx hb hW hown hK.1 hR (a := v0) rfl t1 rfl i_NJ 11 2 (by decide) rfl kw_131 (fun _ h9 => h9) d_NJ_countNets_1 ?_
  obtain ⟨a4, ea4, t5, hw⟩ := hw
  refine W.eq (g2 := F0 m 4 ls [va_rf (some a4)]) (by rw [← ea4] <;> rfl) ?_
  refine mx_callv (va_runV (b := a4) (As := []) (rest := []) ⟨hx, hb, hml, hown, hW⟩ (mt_Tab_begin l D cs Z _ hw) (mx_cwV hW ok_Tab_begin kw_394 rfl rfl ⟨Nat.le_of_ble_eq_true rfl, Nat.le_of_ble_eq_true rfl⟩) (mx_preV hK hZ hA hR (ci := 3) rfl t5) rfl rfl hl.1 rfl (lv_room (Nat.le_of_ble_eq_true rfl)) d_NJ_countNets_4 ⟨Nat.le_of_ble_eq_true rfl, Nat.le_of_ble_eq_true rfl⟩) hR hA (fun h3 H locs hw hR => ?_)
  try dsimp only at hw
  refine lv_iconst (v := 0) hx hb d_NJ_countNets_7 (by decide) ?_
  refine lv_istore_n (i := 1) (lv' := [(1, .int (0 : Int32)), (0, va_rf (some v0))]) hx hb d_NJ_countNets_8 rfl hl (by decide) rfl (fun ls hl => ?_)
  obtain ⟨n9, hw⟩ := hw
  exact mn_NJ_countNets_9 C post n9 (0 : Int32) _ _ _ _ hw (lv_sub hl [1, 0] rfl) hR
set_option maxHeartbeats 4000000 in
set_option maxRecDepth 100000 in
theorem mt_NJ_same (l : Launch) (D : va_G) (cs : CS) (Z : Nat → Nat) (sz : Nat) {post : Int32 → HS → Prop} {h : HS} {v0 : Nat}  (hw : wp_NJ_same Z post h v0 ) : Met l y_NJ_same (Cond.code y_NJ_same c_NJ_same 1 (some .boolean) :: WA) ({ frames := 9, cells := 0, slots := 0, locals := 320 } : Room) (mPc D cs Z h sz [va_rf (some v0)]) (va_Qi post (mB D cs h sz) (fA h sz)) 0 0 (fA h sz) := by
  refine mx_met (fun sz => va_Qi post (mB D cs h sz) (fA h sz)) (by decide) (by simp [lg_sl, mx_rf_cat, cat_i, cat_l]) ?_
  intro p e s m args below meth c C hR ls hl
  have hl : lv_has ls 1 [(0, va_rf (some v0))] := hl
  obtain ⟨hx, hb, hr, hml, hown, hW, hlocks, hnm, hK, hZ⟩ := id C
  have hown : s.vm.findClass "NetJoins" = some m.cls := hown
  have hA : ∀ q, s.heap.size ≤ q → fA h s.heap.size q := fun _ h => Or.inr h
  unfold wp_NJ_same at hw
  refine mx_aload_n (r := some v0) hx hb d_NJ_same_0 rfl (lv_at hl 0 rfl) ?_
  obtain ⟨t1, hw⟩ := hw
  refine mx_get (ci := 0) (C := "NetJoins") (T := F_NJ) (N := 18) hx hb hW hown hK.1 hR (a := v0) rfl t1 rfl i_NJ 11 2 (by decide) rfl kw_131 (fun _ h9 => h9) d_NJ_same_1 ?_
  obtain ⟨a4, ea4, t5, hw⟩ := hw
  refine W.eq (g2 := F0 m 4 ls [va_rf (some a4)]) (by rw [← ea4] <;> rfl) ?_
  refine mx_callv (va_runV (b := a4) (As := []) (rest := []) ⟨hx, hb, hml, hown, hW⟩ (mt_Tab_remember l D cs Z _ hw) (mx_cwV hW ok_Tab_remember kw_291 rfl rfl ⟨Nat.le_of_ble_eq_true rfl, Nat.le_of_ble_eq_true rfl⟩) (mx_preV hK hZ hA hR (ci := 3) rfl t5) rfl rfl hl.1 rfl (lv_room (Nat.le_of_ble_eq_true rfl)) d_NJ_same_4 ⟨Nat.le_of_ble_eq_true rfl, Nat.le_of_ble_eq_true rfl⟩) hR hA (fun h3 H locs hw hR => ?_)
  try dsimp only at hw
  refine mx_aload_n (r := some v0) hx hb d_NJ_same_7 rfl (lv_at hl 0 rfl) ?_
  obtain ⟨t8, hw⟩ := hw
  refine mx_callv (va_runV (b := v0) (As := []) (rest := []) ⟨hx, hb, hml, hown, hW⟩ (mt_NJ_joinAnew l D cs Z _ hw) (mx_cwV hW ok_NJ_joinAnew kw_298 rfl rfl ⟨Nat.le_of_ble_eq_true rfl, Nat.le_of_ble_eq_true rfl⟩) (mx_preV hK hZ hA hR (ci := 0) rfl t8) rfl rfl hl.1 rfl (lv_room (Nat.le_of_ble_eq_true rfl)) d_NJ_same_8 ⟨Nat.le_of_ble_eq_true rfl, Nat.le_of_ble_eq_true rfl⟩) hR hA (fun h7 H locs hw hR => ?_)
  try dsimp only at hw
  refine mx_aload_n (r := some v0) hx hb d_NJ_same_11 rfl (lv_at hl 0 rfl) ?_
  obtain ⟨t11, hw⟩ := hw
  refine mx_callv (va_runV (b := v0) (As := []) (rest := []) ⟨hx, hb, hml, hown, hW⟩ (mt_NJ_countNets l D cs Z _ hw) (mx_cwV hW ok_NJ_countNets kw_390 rfl rfl ⟨Nat.le_of_ble_eq_true rfl, Nat.le_of_ble_eq_true rfl⟩) (mx_preV hK hZ hA hR (ci := 0) rfl t11) rfl rfl hl.1 rfl (lv_room (Nat.le_of_ble_eq_true rfl)) d_NJ_same_12 ⟨Nat.le_of_ble_eq_true rfl, Nat.le_of_ble_eq_true rfl⟩) hR hA (fun h10 H locs hw hR => ?_)
  try dsimp only at hw
  refine mx_aload_n (r := some v0) hx hb d_NJ_same_15 rfl (lv_at hl 0 rfl) ?_
  obtain ⟨t12, hw⟩ := hw
  refine mx_get (ci := 0) (C := "NetJoins") (T := F_NJ) (N := 18) hx hb hW hown hK.1 hR (a := v0) rfl t12 rfl i_NJ 11 2 (by decide) rfl kw_131 (fun _ h9 => h9) d_NJ_same_16 ?_
  obtain ⟨a15, ea15, t16, hw⟩ := hw
  refine W.eq (g2 := F0 m 19 ls [va_rf (some a15)]) (by rw [← ea15] <;> rfl) ?_
  refine mx_calli (va_runV (b := a15) (As := []) (rest := []) ⟨hx, hb, hml, hown, hW⟩ (mt_Tab_isAsRemembered l D cs Z _ hw) (mx_cwV hW ok_Tab_isAsRemembered kw_403 rfl rfl ⟨Nat.le_of_ble_eq_true rfl, Nat.le_of_ble_eq_true rfl⟩) (mx_preV hK hZ hA hR (ci := 3) rfl t16) rfl rfl hl.1 rfl (lv_room (Nat.le_of_ble_eq_true rfl)) d_NJ_same_19 ⟨Nat.le_of_ble_eq_true rfl, Nat.le_of_ble_eq_true rfl⟩) hR hA (fun r13 h14 H locs hw hR => ?_)
  try dsimp only at hw
  exact mx_zret hx hb hr hlocks hR hw.1 hw.2 d_NJ_same_22
set_option maxHeartbeats 4000000 in
set_option maxRecDepth 100000 in
theorem mt_NJ_changed (l : Launch) (D : va_G) (cs : CS) (Z : Nat → Nat) (sz : Nat) {post : Int32 → HS → Prop} {h : HS} {v0 : Nat} {x1 : Int32} (hw : wp_NJ_changed Z post h v0 x1) : Met l y_NJ_changed (Cond.code y_NJ_changed c_NJ_changed 2 (some .int) :: WA) ({ frames := 3, cells := 0, slots := 0, locals := 123 } : Room) (mPc D cs Z h sz [va_rf (some v0), .int x1]) (va_Qi post (mB D cs h sz) (fA h sz)) 0 0 (fA h sz) := by
  refine mx_met (fun sz => va_Qi post (mB D cs h sz) (fA h sz)) (by decide) (by simp [lg_sl, mx_rf_cat, cat_i, cat_l]) ?_
  intro p e s m args below meth c C hR ls hl
  have hl : lv_has ls 2 [(0, va_rf (some v0)), (1, .int x1)] := hl
  obtain ⟨hx, hb, hr, hml, hown, hW, hlocks, hnm, hK, hZ⟩ := id C
  have hown : s.vm.findClass "NetJoins" = some m.cls := hown
  have hA : ∀ q, s.heap.size ≤ q → fA h s.heap.size q := fun _ h => Or.inr h
  unfold wp_NJ_changed at hw
  refine mx_aload_n (r := some v0) hx hb d_NJ_changed_0 rfl (lv_at hl 0 rfl) ?_
  obtain ⟨t1, hw⟩ := hw
  refine mx_get (ci := 0) (C := "NetJoins") (T := F_NJ) (N := 18) hx hb hW hown hK.1 hR (a := v0) rfl t1 rfl i_NJ 11 2 (by decide) rfl kw_131 (fun _ h9 => h9) d_NJ_changed_1 ?_
  refine lv_iload_n hx hb d_NJ_changed_4 rfl (lv_at hl 1 rfl) ?_
  obtain ⟨a4, ea4, t5, hw⟩ := hw
  refine W.eq (g2 := F0 m 5 ls [.int x1, va_rf (some a4)]) (by rw [← ea4] <;> rfl) ?_
  refine mx_calli (va_runV (b := a4) (As := [.int x1]) (rest := []) ⟨hx, hb, hml, hown, hW⟩ (mt_Tab_changedNet l D cs Z _ hw) (mx_cwV hW ok_Tab_changedNet kw_411 rfl rfl ⟨Nat.le_of_ble_eq_true rfl, Nat.le_of_ble_eq_true rfl⟩) (mx_preV hK hZ hA hR (ci := 3) rfl t5) rfl rfl hl.1 rfl (lv_room (Nat.le_of_ble_eq_true rfl)) d_NJ_changed_5 ⟨Nat.le_of_ble_eq_true rfl, Nat.le_of_ble_eq_true rfl⟩) hR hA (fun r2 h3 H locs hw hR => ?_)
  try dsimp only at hw
  exact mx_iret hx hb hr hlocks hR hw d_NJ_changed_8
set_option maxHeartbeats 4000000 in
set_option maxRecDepth 100000 in
theorem mt_NJ_repeatOf (l : Launch) (D : va_G) (cs : CS) (Z : Nat → Nat) (sz : Nat) {post : Option Nat → HS → Prop} {h : HS} {v0 : Nat} {x1 : Int32} {x2 : Int32} {x3 : Int32} (hw : wp_NJ_repeatOf Z post h v0 x1 x2 x3) : Met l y_NJ_repeatOf (Cond.code y_NJ_repeatOf c_NJ_repeatOf 6 (some (.object "NetJoins$Sheet")) :: WA) ({ frames := 5, cells := 1, slots := 5, locals := 164 } : Room) (mPc D cs Z h sz [va_rf (some v0), .int x1, .int x2, .int x3]) (va_Qq post (mB D cs h sz) (fA h sz)) 1 5 (fA h sz) := by
  refine mx_met (fun sz => va_Qq post (mB D cs h sz) (fA h sz)) (by decide) (by simp [lg_sl, mx_rf_cat, cat_i, cat_l]) ?_
  intro p e s m args below meth c C hR ls hl
  have hl : lv_has ls 6 [(0, va_rf (some v0)), (1, .int x1), (2, .int x2), (3, .int x3)] := hl
  obtain ⟨hx, hb, hr, hml, hown, hW, hlocks, hnm, hK, hZ⟩ := id C
  have hown : s.vm.findClass "NetJoins" = some m.cls := hown
  have hA : ∀ q, s.heap.size ≤ q → fA h s.heap.size q := fun _ h => Or.inr h
  unfold wp_NJ_repeatOf at hw
  refine mx_aload_n (r := some v0) hx hb d_NJ_repeatOf_0 rfl (lv_at hl 0 rfl) ?_
  obtain ⟨t1, hw⟩ := hw
  refine mx_get (ci := 0) (C := "NetJoins") (T := F_NJ) (N := 18) hx hb hW hown hK.1 hR (a := v0) rfl t1 rfl i_NJ 0 2 (by decide) rfl kw_120 (fun _ h9 => h9) d_NJ_repeatOf_1 ?_
  refine lv_iload_n hx hb d_NJ_repeatOf_4 rfl (lv_at hl 1 rfl) ?_
  obtain ⟨a4, ea4, t5, hw⟩ := hw
  refine W.eq (g2 := F0 m 5 ls [.int x1, va_rf (some a4)]) (by rw [← ea4] <;> rfl) ?_
  refine mx_callr (va_runV (b := a4) (As := [.int x1]) (rest := []) ⟨hx, hb, hml, hown, hW⟩ (mt_AL_get l D cs Z _ hw) (mx_cwV hW ok_AL_get kw_196 rfl rfl ⟨Nat.le_of_ble_eq_true rfl, Nat.le_of_ble_eq_true rfl⟩) (mx_preV hK hZ hA hR (ci := 9) rfl t5) rfl rfl hl.1 rfl (lv_room (Nat.le_of_ble_eq_true rfl)) d_NJ_repeatOf_5 ⟨Nat.le_of_ble_eq_true rfl, Nat.le_of_ble_eq_true rfl⟩) hR hA (fun r2 h3 H locs hw hR => ?_)
  try dsimp only at hw
  obtain ⟨t6, hw⟩ := hw
  refine mx_cast (ci := 5) (C := "NetJoins$Sheet") (T := F_Sheet) (N := 5) hx hb hW hown hK.1 hR rfl kw_211 t6 d_NJ_repeatOf_8 ?_
  refine mx_astore (i := 4) (r := r2) (lv' := [(4, va_rf r2), (0, va_rf (some v0)), (1, .int x1), (2, .int x2), (3, .int x3)]) hx hb d_NJ_repeatOf_11 hl (by decide) rfl (fun ls hl => ?_)
  refine mx_new (ci := 5) (C := "NetJoins$Sheet") (T := F_Sheet) (N := 5) hx hb hW hown hK.1 hR hA rfl i_Sheet t_Sheet t_Sheet_ok kw_211 kw_516 kw_16 (fun q j hj => nf_Sheet _ q j hj) (by decide) (by decide) d_NJ_repeatOf_13 (fun q7 H tq7 hR => ?_)
  refine W.widen (k := 1) (n := 5) (by decide) (by decide) ?_
  have hw := hw q7 tq7
  obtain ⟨h8, eh8⟩ : ∃ z, z = nH h3 q7 21 0 := ⟨_, rfl⟩
  rw [← eh8] at hR
  have hw := hw h8 eh8
  refine lv_dup hx hb d_NJ_repeatOf_16 (mx_rf_cat _) ?_
  refine lv_iload_n hx hb d_NJ_repeatOf_17 rfl (lv_at hl 3 rfl) ?_
  refine lv_iload_n hx hb d_NJ_repeatOf_18 rfl (lv_at hl 4 rfl) ?_
  refine lv_iload_n hx hb d_NJ_repeatOf_19 rfl (lv_at hl 2 rfl) ?_
  refine mx_aload (r := r2) hx hb d_NJ_repeatOf_20 (lv_at hl 0 rfl) ?_
  obtain ⟨a9, ea9, t10, hw⟩ := hw
  refine mx_get (ci := 5) (C := "NetJoins$Sheet") (T := F_Sheet) (N := 5) hx hb hW hown hK.1 hR (a := a9) ea9 t10 rfl i_Sheet 4 0 (by decide) rfl kw_530 (fun _ h9 => h9) d_NJ_repeatOf_22 ?_
  refine mx_callv (va_runI (b := q7) (As := [.int x2, .int x3, .int x1, .int (gI h8 504 a9)]) (rest := [va_rf (some q7)]) ⟨hx, hb, hml, hown, hW⟩ (mt_Sheet_init l D cs Z _ hw) (mx_cwI hW ok_Sheet_init kw_517 rfl rfl ⟨Nat.le_of_ble_eq_true rfl, Nat.le_of_ble_eq_true rfl⟩) (mx_preS hK hZ hA hR) rfl rfl hl.1 rfl (lv_room (Nat.le_of_ble_eq_true rfl)) d_NJ_repeatOf_25 ⟨Nat.le_of_ble_eq_true rfl, Nat.le_of_ble_eq_true rfl⟩) hR hA (fun h12 H locs hw hR => ?_)
  try dsimp only at hw
  refine mx_astore (i := 5) (r := some q7) (lv' := [(5, va_rf (some q7)), (4, va_rf r2), (0, va_rf (some v0)), (1, .int x1), (2, .int x2), (3, .int x3)]) hx hb d_NJ_repeatOf_28 hl (by decide) (by simp [mx_rf_cat]) (fun ls hl => ?_)
  refine mx_aload (r := r2) hx hb d_NJ_repeatOf_30 (lv_at hl 1 rfl) ?_
  refine lv_dup hx hb d_NJ_repeatOf_32 (mx_rf_cat _) ?_
  obtain ⟨a13, ea13, t14, hw⟩ := hw
  refine mx_get (ci := 5) (C := "NetJoins$Sheet") (T := F_Sheet) (N := 5) hx hb hW hown hK.1 hR (a := a13) ea13 t14 rfl i_Sheet 4 0 (by decide) rfl kw_530 (fun _ h9 => h9) d_NJ_repeatOf_33 ?_
  refine lv_iconst (v := 1) hx hb d_NJ_repeatOf_36 (by decide) ?_
  refine lv_iadd hx hb d_NJ_repeatOf_37 ?_
  obtain ⟨a15, ea15, t16, hw⟩ := hw
  refine mx_put (ci := 5) (C := "NetJoins$Sheet") (T := F_Sheet) (N := 5) (v := .int ((gI h12 504 a13) + (1 : Int32))) (h' := sI h12 504 a15 ((gI h12 504 a13) + (1 : Int32))) hx hb hW hown hK.1 hR (a := a15) ea15 t16 rfl i_Sheet t_Sheet t_Sheet_ok n_Sheet 4 0 (by decide) rfl kw_530 (fun _ h9 => h9) rfl rfl rfl d_NJ_repeatOf_38 rfl (toE_sI (ci := 5) (k := 4) t16 rfl) (fun H locs hR => ?_)
  obtain ⟨h17, eh17⟩ : ∃ z, z = sI h12 504 a15 ((gI h12 504 a13) + (1 : Int32)) := ⟨_, rfl⟩
  rw [← eh17] at hR
  have hw := hw h17 eh17
  refine mx_aload (r := some q7) hx hb d_NJ_repeatOf_41 (lv_at hl 0 rfl) ?_
  exact mx_aret hx hb hr (Or.inl ⟨_, rfl⟩) hlocks hR hw d_NJ_repeatOf_43
set_option maxHeartbeats 4000000 in
set_option maxRecDepth 100000 in
theorem mt_NJ_keepUp (l : Launch) (D : va_G) (cs : CS) (Z : Nat → Nat) (sz : Nat) {post : HS → Prop} {h : HS} {v0 : Nat}  (hw : wp_NJ_keepUp Z post h v0 ) : Met l y_NJ_keepUp (Cond.code y_NJ_keepUp c_NJ_keepUp 1 none :: WA) ({ frames := 7, cells := 0, slots := 0, locals := 320 } : Room) (mPc D cs Z h sz [va_rf (some v0)]) (va_Qv post (mB D cs h sz) (fA h sz)) 0 0 (fA h sz) := by
  refine mx_met (fun sz => va_Qv post (mB D cs h sz) (fA h sz)) (by decide) (by simp [lg_sl, mx_rf_cat, cat_i, cat_l]) ?_
  intro p e s m args below meth c C hR ls hl
  have hl : lv_has ls 1 [(0, va_rf (some v0))] := hl
  obtain ⟨hx, hb, hr, hml, hown, hW, hlocks, hnm, hK, hZ⟩ := id C
  have hown : s.vm.findClass "NetJoins" = some m.cls := hown
  have hA : ∀ q, s.heap.size ≤ q → fA h s.heap.size q := fun _ h => Or.inr h
  unfold wp_NJ_keepUp at hw
  refine mx_aload_n (r := some v0) hx hb d_NJ_keepUp_0 rfl (lv_at hl 0 rfl) ?_
  obtain ⟨t1, hw⟩ := hw
  refine mx_get (ci := 0) (C := "NetJoins") (T := F_NJ) (N := 18) hx hb hW hown hK.1 hR (a := v0) rfl t1 rfl i_NJ 11 2 (by decide) rfl kw_131 (fun _ h9 => h9) d_NJ_keepUp_1 ?_
  obtain ⟨a4, ea4, t5, hw⟩ := hw
  refine W.eq (g2 := F0 m 4 ls [va_rf (some a4)]) (by rw [← ea4] <;> rfl) ?_
  refine mx_callv (va_runV (b := a4) (As := []) (rest := []) ⟨hx, hb, hml, hown, hW⟩ (mt_Tab_remember l D cs Z _ hw) (mx_cwV hW ok_Tab_remember kw_291 rfl rfl ⟨Nat.le_of_ble_eq_true rfl, Nat.le_of_ble_eq_true rfl⟩) (mx_preV hK hZ hA hR (ci := 3) rfl t5) rfl rfl hl.1 rfl (lv_room (Nat.le_of_ble_eq_true rfl)) d_NJ_keepUp_4 ⟨Nat.le_of_ble_eq_true rfl, Nat.le_of_ble_eq_true rfl⟩) hR hA (fun h3 H locs hw hR => ?_)
  try dsimp only at hw
  refine mx_aload_n (r := some v0) hx hb d_NJ_keepUp_7 rfl (lv_at hl 0 rfl) ?_
  obtain ⟨t8, hw⟩ := hw
  refine mx_callv (va_runV (b := v0) (As := []) (rest := []) ⟨hx, hb, hml, hown, hW⟩ (mt_NJ_countNets l D cs Z _ hw) (mx_cwV hW ok_NJ_countNets kw_390 rfl rfl ⟨Nat.le_of_ble_eq_true rfl, Nat.le_of_ble_eq_true rfl⟩) (mx_preV hK hZ hA hR (ci := 0) rfl t8) rfl rfl hl.1 rfl (lv_room (Nat.le_of_ble_eq_true rfl)) d_NJ_keepUp_8 ⟨Nat.le_of_ble_eq_true rfl, Nat.le_of_ble_eq_true rfl⟩) hR hA (fun h7 H locs hw hR => ?_)
  try dsimp only at hw
  refine mx_aload_n (r := some v0) hx hb d_NJ_keepUp_11 rfl (lv_at hl 0 rfl) ?_
  obtain ⟨t9, hw⟩ := hw
  refine mx_get (ci := 0) (C := "NetJoins") (T := F_NJ) (N := 18) hx hb hW hown hK.1 hR (a := v0) rfl t9 rfl i_NJ 11 2 (by decide) rfl kw_131 (fun _ h9 => h9) d_NJ_keepUp_12 ?_
  obtain ⟨a12, ea12, t13, hw⟩ := hw
  refine W.eq (g2 := F0 m 15 ls [va_rf (some a12)]) (by rw [← ea12] <;> rfl) ?_
  refine mx_callv (va_runV (b := a12) (As := []) (rest := []) ⟨hx, hb, hml, hown, hW⟩ (mt_Tab_markChanges l D cs Z _ hw) (mx_cwV hW ok_Tab_markChanges kw_610 rfl rfl ⟨Nat.le_of_ble_eq_true rfl, Nat.le_of_ble_eq_true rfl⟩) (mx_preV hK hZ hA hR (ci := 3) rfl t13) rfl rfl hl.1 rfl (lv_room (Nat.le_of_ble_eq_true rfl)) d_NJ_keepUp_15 ⟨Nat.le_of_ble_eq_true rfl, Nat.le_of_ble_eq_true rfl⟩) hR hA (fun h11 H locs hw hR => ?_)
  try dsimp only at hw
  refine mx_aload_n (r := some v0) hx hb d_NJ_keepUp_18 rfl (lv_at hl 0 rfl) ?_
  refine lv_iconst (v := 0) hx hb d_NJ_keepUp_19 (by decide) ?_
  obtain ⟨t14, hw⟩ := hw
  obtain ⟨z15, hw⟩ := hw
  refine mx_put (ci := 0) (C := "NetJoins") (T := F_NJ) (N := 18) (v := .int (0 : Int32)) (h' := sI h11 14 v0 (0 : Int32)) hx hb hW hown hK.1 hR (a := v0) rfl t14 rfl i_NJ t_NJ t_NJ_ok n_NJ 14 0 (by decide) rfl kw_134 (fun _ h9 => h9) rfl (mx_z_n z15).1 (mx_z_n z15).2 d_NJ_keepUp_20 rfl (toE_sI (ci := 0) (k := 14) t14 rfl) (fun H locs hR => ?_)
  obtain ⟨h16, eh16⟩ : ∃ z, z = sI h11 14 v0 (0 : Int32) := ⟨_, rfl⟩
  rw [← eh16] at hR
  have hw := hw h16 eh16
  refine mx_aload_n (r := some v0) hx hb d_NJ_keepUp_23 rfl (lv_at hl 0 rfl) ?_
  refine lv_iconst (v := 0) hx hb d_NJ_keepUp_24 (by decide) ?_
  obtain ⟨t17, hw⟩ := hw
  obtain ⟨z18, hw⟩ := hw
  refine mx_put (ci := 0) (C := "NetJoins") (T := F_NJ) (N := 18) (v := .int (0 : Int32)) (h' := sI h16 17 v0 (0 : Int32)) hx hb hW hown hK.1 hR (a := v0) rfl t17 rfl i_NJ t_NJ t_NJ_ok n_NJ 17 0 (by decide) rfl kw_137 (fun _ h9 => h9) rfl (mx_z_n z18).1 (mx_z_n z18).2 d_NJ_keepUp_25 rfl (toE_sI (ci := 0) (k := 17) t17 rfl) (fun H locs hR => ?_)
  obtain ⟨h19, eh19⟩ : ∃ z, z = sI h16 17 v0 (0 : Int32) := ⟨_, rfl⟩
  rw [← eh19] at hR
  have hw := hw h19 eh19
  exact mx_vret hx hb hr hlocks hR hw d_NJ_keepUp_28
set_option maxHeartbeats 4000000 in
set_option maxRecDepth 100000 in
theorem mn_NJ_joinThroughJunctions_46 {D : va_G} {cs : CS} {Z : Nat → Nat} {h0 : HS} {p : Program} {l : Launch} {e : Env} {s : State} {m : MethodId} {args : Array Value} {below : List Frame} {meth : Method} {c : Code} {v0 : Nat} (C : mC D cs Z h0 y_NJ_joinThroughJunctions c_NJ_joinThroughJunctions 3 none p s m args meth c) (post : HS → Prop) (K2 : Option Nat × Int32 × HS → Prop) (hK2 : ∀ (x1 : Option Nat) (x2 : Int32) (h : HS) (H : Heap) (locs : List Loc) (ls : Array Slot), K2 (x1, x2, h) → lv_has ls 3 [(0, va_rf (some v0)), (1, va_rf x1), (2, .int x2)] → mR D cs (fA h0 s.heap.size) h s.heap H locs → W p l e ({ frames := 6, cells := 0, slots := 0, locals := 188 } : Room) s m args below meth c H locs 0 0 (MQ below (va_Qv post (mB D cs h0 s.heap.size) (fA h0 s.heap.size)) args s 0 0 (fA h0 s.heap.size)) (F0 m 2 ls [])) : ∀ (x1 : Option Nat) (x2 : Int32) (h : HS) (H : Heap) (locs : List Loc) (ls : Array Slot), wj_NJ_joinThroughJunctions_46 Z post K2 v0 x1 x2 h → lv_has ls 3 [(0, va_rf (some v0)), (1, va_rf x1), (2, .int x2)] → mR D cs (fA h0 s.heap.size) h s.heap H locs → W p l e ({ frames := 6, cells := 0, slots := 0, locals := 188 } : Room) s m args below meth c H locs 0 0 (MQ below (va_Qv post (mB D cs h0 s.heap.size) (fA h0 s.heap.size)) args s 0 0 (fA h0 s.heap.size)) (F0 m 46 ls []) := by
  obtain ⟨hx, hb, hr, hml, hown, hW, hlocks, hnm, hK, hZ⟩ := id C
  have hown : s.vm.findClass "NetJoins" = some m.cls := hown
  have hA : ∀ q, s.heap.size ≤ q → fA h0 s.heap.size q := fun _ h => Or.inr h
  intro x1 x2 h H locs ls hw hl hR
  unfold wj_NJ_joinThroughJunctions_46 at hw
  obtain ⟨y1, ey1⟩ : ∃ y : Int32, y = x2 + (1 : Int32) := ⟨_, rfl⟩
  have hw := hw y1 ey1
  refine lv_iinc (v := y1) (lv' := [(2, .int y1), (0, va_rf (some v0)), (1, va_rf x1)]) hx hb d_NJ_joinThroughJunctions_46 hl (k := 2) rfl (by rw [ey1]; rfl) (by decide) (by simp [mx_rf_cat]) (fun ls hl => ?_)
  refine lv_goto (tgt := 2) hx hb d_NJ_joinThroughJunctions_49 (by decide) ?_
  exact hK2 x1 y1 _ _ _ _ hw (lv_sub hl [1, 2, 0] rfl) hR
set_option maxHeartbeats 4000000 in
set_option maxRecDepth 100000 in
theorem mn_NJ_joinThroughJunctions_2 {D : va_G} {cs : CS} {Z : Nat → Nat} {h0 : HS} {p : Program} {l : Launch} {e : Env} {s : State} {m : MethodId} {args : Array Value} {below : List Frame} {meth : Method} {c : Code} {v0 : Nat} (C : mC D cs Z h0 y_NJ_joinThroughJunctions c_NJ_joinThroughJunctions 3 none p s m args meth c) (post : HS → Prop) : ∀ (n : Nat) (x1 : Option Nat) (x2 : Int32) (h : HS) (H : Heap) (locs : List Loc) (ls : Array Slot), lpF (wb_NJ_joinThroughJunctions_2 Z post v0) n (x1, x2, h) → lv_has ls 3 [(0, va_rf (some v0)), (1, va_rf x1), (2, .int x2)] → mR D cs (fA h0 s.heap.size) h s.heap H locs → W p l e ({ frames := 6, cells := 0, slots := 0, locals := 188 } : Room) s m args below meth c H locs 0 0 (MQ below (va_Qv post (mB D cs h0 s.heap.size) (fA h0 s.heap.size)) args s 0 0 (fA h0 s.heap.size)) (F0 m 2 ls []) := by
  obtain ⟨hx, hb, hr, hml, hown, hW, hlocks, hnm, hK, hZ⟩ := id C
  have hown : s.vm.findClass "NetJoins" = some m.cls := hown
  have hA : ∀ q, s.heap.size ≤ q → fA h0 s.heap.size q := fun _ h => Or.inr h
  intro n
  induction n with
  | zero => intro x1 x2 h H locs ls hw; exact hw.elim
  | succ n ih =>
    intro x1 x2 h H locs ls hw hl hR
    have hw : wb_NJ_joinThroughJunctions_2 Z post v0 (lpF (wb_NJ_joinThroughJunctions_2 Z post v0) n) (x1, x2, h) := hw
    unfold wb_NJ_joinThroughJunctions_2 at hw
    dsimp only at hw
    refine lv_iload_n hx hb d_NJ_joinThroughJunctions_2 rfl (lv_at hl 2 rfl) ?_
    refine mx_aload_n (r := some v0) hx hb d_NJ_joinThroughJunctions_3 rfl (lv_at hl 0 rfl) ?_
    obtain ⟨t1, hw⟩ := hw
    refine mx_get (ci := 0) (C := "NetJoins") (T := F_NJ) (N := 18) hx hb hW hown hK.1 hR (a := v0) rfl t1 rfl i_NJ 2 2 (by decide) rfl kw_122 (fun _ h9 => h9) d_NJ_joinThroughJunctions_4 ?_
    obtain ⟨a4, ea4, t5, hw⟩ := hw
    refine W.eq (g2 := F0 m 7 ls [va_rf (some a4), .int x2]) (by rw [← ea4] <;> rfl) ?_
    refine mx_calli (va_runV (b := a4) (As := []) (rest := [.int x2]) ⟨hx, hb, hml, hown, hW⟩ (mt_AL_size l D cs Z _ hw) (mx_cwV hW ok_AL_size kw_192 rfl rfl ⟨Nat.le_of_ble_eq_true rfl, Nat.le_of_ble_eq_true rfl⟩) (mx_preV hK hZ hA hR (ci := 9) rfl t5) rfl rfl hl.1 rfl (lv_room (Nat.le_of_ble_eq_true rfl)) d_NJ_joinThroughJunctions_7 ⟨Nat.le_of_ble_eq_true rfl, Nat.le_of_ble_eq_true rfl⟩) hR hA (fun r2 h3 H locs hw hR => ?_)
    try dsimp only at hw
    refine lv_icmp_ge (tgt := 52) hx hb d_NJ_joinThroughJunctions_10 (by decide) (fun c6 => ?_) (fun c6 => ?_)
    · have hw := hw.1 c6
      exact mx_vret hx hb hr hlocks hR hw d_NJ_joinThroughJunctions_52
    · have hw := hw.2 c6
      refine mx_aload_n (r := x1) hx hb d_NJ_joinThroughJunctions_13 rfl (lv_at hl 1 rfl) ?_
      refine mx_aload_n (r := some v0) hx hb d_NJ_joinThroughJunctions_14 rfl (lv_at hl 0 rfl) ?_
      obtain ⟨t7, hw⟩ := hw
      refine mx_get (ci := 0) (C := "NetJoins") (T := F_NJ) (N := 18) hx hb hW hown hK.1 hR (a := v0) rfl t7 rfl i_NJ 2 2 (by decide) rfl kw_122 (fun _ h9 => h9) d_NJ_joinThroughJunctions_15 ?_
      refine lv_iload_n hx hb d_NJ_joinThroughJunctions_18 rfl (lv_at hl 2 rfl) ?_
      obtain ⟨a10, ea10, t11, hw⟩ := hw
      refine W.eq (g2 := F0 m 19 ls [.int x2, va_rf (some a10), va_rf x1]) (by rw [← ea10] <;> rfl) ?_
      refine mx_callr (va_runV (b := a10) (As := [.int x2]) (rest := [va_rf x1]) ⟨hx, hb, hml, hown, hW⟩ (mt_AL_get l D cs Z _ hw) (mx_cwV hW ok_AL_get kw_196 rfl rfl ⟨Nat.le_of_ble_eq_true rfl, Nat.le_of_ble_eq_true rfl⟩) (mx_preV hK hZ hA hR (ci := 9) rfl t11) rfl rfl hl.1 rfl (lv_room (by simp [mx_rf_cat, cat_i, cat_l])) d_NJ_joinThroughJunctions_19 ⟨Nat.le_of_ble_eq_true rfl, Nat.le_of_ble_eq_true rfl⟩) hR hA (fun r8 h9 H locs hw hR => ?_)
      try dsimp only at hw
      obtain ⟨t12, hw⟩ := hw
      refine mx_cast (ci := 6) (C := "NetJoins$Spot") (T := F_Spot) (N := 6) hx hb hW hown hK.1 hR rfl kw_210 t12 d_NJ_joinThroughJunctions_22 ?_
      obtain ⟨a15, ea15, t16, hw⟩ := hw
      refine W.eq (g2 := F0 m 25 ls [va_rf r8, va_rf (some a15)]) (by rw [← ea15] <;> rfl) ?_
      refine mx_calli (va_runV (b := a15) (As := [va_rf r8]) (rest := []) ⟨hx, hb, hml, hown, hW⟩ (mt_Wire_goesThrough l D cs Z _ hw) (mx_cwV hW ok_Wire_goesThrough kw_260 rfl rfl ⟨Nat.le_of_ble_eq_true rfl, Nat.le_of_ble_eq_true rfl⟩) (mx_preV hK hZ hA hR (ci := 7) rfl t16) rfl rfl hl.1 rfl (lv_room (Nat.le_of_ble_eq_true rfl)) d_NJ_joinThroughJunctions_25 ⟨Nat.le_of_ble_eq_true rfl, Nat.le_of_ble_eq_true rfl⟩) hR hA (fun r13 h14 H locs hw hR => ?_)
      try dsimp only at hw
      refine lv_if_eq (tgt := 46) hx hb d_NJ_joinThroughJunctions_28 (by decide) (fun c17 => ?_) (fun c17 => ?_)
      · have hw := hw.1 c17
        exact mn_NJ_joinThroughJunctions_46 C post (lpF (wb_NJ_joinThroughJunctions_2 Z post v0) n) ih x1 x2 _ _ _ _ hw (lv_sub hl [0, 1, 2] rfl) hR
      · have hw := hw.2 c17
        refine mx_aload_n (r := some v0) hx hb d_NJ_joinThroughJunctions_31 rfl (lv_at hl 0 rfl) ?_
        refine mx_aload_n (r := some v0) hx hb d_NJ_joinThroughJunctions_32 rfl (lv_at hl 0 rfl) ?_
        obtain ⟨t18, hw⟩ := hw
        refine mx_get (ci := 0) (C := "NetJoins") (T := F_NJ) (N := 18) hx hb hW hown hK.1 hR (a := v0) rfl t18 rfl i_NJ 2 2 (by decide) rfl kw_122 (fun _ h9 => h9) d_NJ_joinThroughJunctions_33 ?_
        refine lv_iload_n hx hb d_NJ_joinThroughJunctions_36 rfl (lv_at hl 2 rfl) ?_
        obtain ⟨a21, ea21, t22, hw⟩ := hw
        refine W.eq (g2 := F0 m 37 ls [.int x2, va_rf (some a21), va_rf (some v0)]) (by rw [← ea21] <;> rfl) ?_
        refine mx_callr (va_runV (b := a21) (As := [.int x2]) (rest := [va_rf (some v0)]) ⟨hx, hb, hml, hown, hW⟩ (mt_AL_get l D cs Z _ hw) (mx_cwV hW ok_AL_get kw_196 rfl rfl ⟨Nat.le_of_ble_eq_true rfl, Nat.le_of_ble_eq_true rfl⟩) (mx_preV hK hZ hA hR (ci := 9) rfl t22) rfl rfl hl.1 rfl (lv_room (Nat.le_of_ble_eq_true rfl)) d_NJ_joinThroughJunctions_37 ⟨Nat.le_of_ble_eq_true rfl, Nat.le_of_ble_eq_true rfl⟩) hR hA (fun r19 h20 H locs hw hR => ?_)
        try dsimp only at hw
        obtain ⟨t23, hw⟩ := hw
        refine mx_cast (ci := 6) (C := "NetJoins$Spot") (T := F_Spot) (N := 6) hx hb hW hown hK.1 hR rfl kw_210 t23 d_NJ_joinThroughJunctions_40 ?_
        obtain ⟨t26, hw⟩ := hw
        refine mx_callv (va_runV (b := v0) (As := [va_rf r19]) (rest := []) ⟨hx, hb, hml, hown, hW⟩ (mt_NJ_joinJunction l D cs Z _ hw) (mx_cwV hW ok_NJ_joinJunction kw_336 rfl rfl ⟨Nat.le_of_ble_eq_true rfl, Nat.le_of_ble_eq_true rfl⟩) (mx_preV hK hZ hA hR (ci := 0) rfl t26) rfl rfl hl.1 rfl (lv_room (Nat.le_of_ble_eq_true rfl)) d_NJ_joinThroughJunctions_43 ⟨Nat.le_of_ble_eq_true rfl, Nat.le_of_ble_eq_true rfl⟩) hR hA (fun h25 H locs hw hR => ?_)
        try dsimp only at hw
        exact mn_NJ_joinThroughJunctions_46 C post (lpF (wb_NJ_joinThroughJunctions_2 Z post v0) n) ih x1 x2 _ _ _ _ hw (lv_sub hl [0, 1, 2] rfl) hR
set_option maxHeartbeats 4000000 in
set_option maxRecDepth 100000 in
theorem mt_NJ_joinThroughJunctions (l : Launch) (D : va_G) (cs : CS) (Z : Nat → Nat) (sz : Nat) {post : HS → Prop} {h : HS} {v0 : Nat} {x1 : Option Nat} (hw : wp_NJ_joinThroughJunctions Z post h v0 x1) : Met l y_NJ_joinThroughJunctions (Cond.code y_NJ_joinThroughJunctions c_NJ_joinThroughJunctions 3 none :: WA) ({ frames := 6, cells := 0, slots := 0, locals := 188 } : Room) (mPc D cs Z h sz [va_rf (some v0), va_rf x1]) (va_Qv post (mB D cs h sz) (fA h sz)) 0 0 (fA h sz) := by
  refine mx_met (fun sz => va_Qv post (mB D cs h sz) (fA h sz)) (by decide) (by simp [lg_sl, mx_rf_cat, cat_i, cat_l]) ?_
  intro p e s m args below meth c C hR ls hl
  have hl : lv_has ls 3 [(0, va_rf (some v0)), (1, va_rf x1)] := by simpa [lv_args, mx_rf_cat, cat_i, cat_l] using hl
  obtain ⟨hx, hb, hr, hml, hown, hW, hlocks, hnm, hK, hZ⟩ := id C
  have hown : s.vm.findClass "NetJoins" = some m.cls := hown
  have hA : ∀ q, s.heap.size ≤ q → fA h s.heap.size q := fun _ h => Or.inr h
  unfold wp_NJ_joinThroughJunctions at hw
  refine lv_iconst (v := 0) hx hb d_NJ_joinThroughJunctions_0 (by decide) ?_
  refine lv_istore_n (i := 2) (lv' := [(2, .int (0 : Int32)), (0, va_rf (some v0)), (1, va_rf x1)]) hx hb d_NJ_joinThroughJunctions_1 rfl hl (by decide) (by simp [mx_rf_cat]) (fun ls hl => ?_)
  obtain ⟨n9, hw⟩ := hw
  exact mn_NJ_joinThroughJunctions_2 C post n9 x1 (0 : Int32) _ _ _ _ hw (lv_sub hl [1, 2, 0] rfl) hR
set_option maxHeartbeats 4000000 in
set_option maxRecDepth 100000 in
theorem mn_NJ_joinWithSpots_47 {D : va_G} {cs : CS} {Z : Nat → Nat} {h0 : HS} {p : Program} {l : Launch} {e : Env} {s : State} {m : MethodId} {args : Array Value} {below : List Frame} {meth : Method} {c : Code} {v0 : Nat} (C : mC D cs Z h0 y_NJ_joinWithSpots c_NJ_joinWithSpots 4 none p s m args meth c) (post : HS → Prop) (K2 : Option Nat × Option Nat × Int32 × HS → Prop) (hK2 : ∀ (x1 : Option Nat) (x2 : Option Nat) (x3 : Int32) (h : HS) (H : Heap) (locs : List Loc) (ls : Array Slot), K2 (x1, x2, x3, h) → lv_has ls 4 [(0, va_rf (some v0)), (1, va_rf x1), (2, va_rf x2), (3, .int x3)] → mR D cs (fA h0 s.heap.size) h s.heap H locs → W p l e ({ frames := 5, cells := 0, slots := 0, locals := 164 } : Room) s m args below meth c H locs 0 0 (MQ below (va_Qv post (mB D cs h0 s.heap.size) (fA h0 s.heap.size)) args s 0 0 (fA h0 s.heap.size)) (F0 m 2 ls [])) : ∀ (x1 : Option Nat) (x2 : Option Nat) (x3 : Int32) (h : HS) (H : Heap) (locs : List Loc) (ls : Array Slot), wj_NJ_joinWithSpots_47 Z post K2 v0 x1 x2 x3 h → lv_has ls 4 [(0, va_rf (some v0)), (1, va_rf x1), (2, va_rf x2), (3, .int x3)] → mR D cs (fA h0 s.heap.size) h s.heap H locs → W p l e ({ frames := 5, cells := 0, slots := 0, locals := 164 } : Room) s m args below meth c H locs 0 0 (MQ below (va_Qv post (mB D cs h0 s.heap.size) (fA h0 s.heap.size)) args s 0 0 (fA h0 s.heap.size)) (F0 m 47 ls []) := by
  obtain ⟨hx, hb, hr, hml, hown, hW, hlocks, hnm, hK, hZ⟩ := id C
  have hown : s.vm.findClass "NetJoins" = some m.cls := hown
  have hA : ∀ q, s.heap.size ≤ q → fA h0 s.heap.size q := fun _ h => Or.inr h
  intro x1 x2 x3 h H locs ls hw hl hR
  unfold wj_NJ_joinWithSpots_47 at hw
  obtain ⟨y1, ey1⟩ : ∃ y : Int32, y = x3 + (1 : Int32) := ⟨_, rfl⟩
  have hw := hw y1 ey1
  refine lv_iinc (v := y1) (lv' := [(3, .int y1), (0, va_rf (some v0)), (1, va_rf x1), (2, va_rf x2)]) hx hb d_NJ_joinWithSpots_47 hl (k := 3) rfl (by rw [ey1]; rfl) (by decide) (by simp [mx_rf_cat]) (fun ls hl => ?_)
  refine lv_goto (tgt := 2) hx hb d_NJ_joinWithSpots_50 (by decide) ?_
  exact hK2 x1 x2 y1 _ _ _ _ hw (lv_sub hl [1, 2, 3, 0] rfl) hR
set_option maxHeartbeats 4000000 in
set_option maxRecDepth 100000 in
theorem mn_NJ_joinWithSpots_2 {D : va_G} {cs : CS} {Z : Nat → Nat} {h0 : HS} {p : Program} {l : Launch} {e : Env} {s : State} {m : MethodId} {args : Array Value} {below : List Frame} {meth : Method} {c : Code} {v0 : Nat} (C : mC D cs Z h0 y_NJ_joinWithSpots c_NJ_joinWithSpots 4 none p s m args meth c) (post : HS → Prop) : ∀ (n : Nat) (x1 : Option Nat) (x2 : Option Nat) (x3 : Int32) (h : HS) (H : Heap) (locs : List Loc) (ls : Array Slot), lpF (wb_NJ_joinWithSpots_2 Z post v0) n (x1, x2, x3, h) → lv_has ls 4 [(0, va_rf (some v0)), (1, va_rf x1), (2, va_rf x2), (3, .int x3)] → mR D cs (fA h0 s.heap.size) h s.heap H locs → W p l e ({ frames := 5, cells := 0, slots := 0, locals := 164 } : Room) s m args below meth c H locs 0 0 (MQ below (va_Qv post (mB D cs h0 s.heap.size) (fA h0 s.heap.size)) args s 0 0 (fA h0 s.heap.size)) (F0 m 2 ls []) := by
  obtain ⟨hx, hb, hr, hml, hown, hW, hlocks, hnm, hK, hZ⟩ := id C
  have hown : s.vm.findClass "NetJoins" = some m.cls := hown
  have hA : ∀ q, s.heap.size ≤ q → fA h0 s.heap.size q := fun _ h => Or.inr h
  intro n
  induction n with
  | zero => intro x1 x2 x3 h H locs ls hw; exact hw.elim
  | succ n ih =>
    intro x1 x2 x3 h H locs ls hw hl hR
    have hw : wb_NJ_joinWithSpots_2 Z post v0 (lpF (wb_NJ_joinWithSpots_2 Z post v0) n) (x1, x2, x3, h) := hw
    unfold wb_NJ_joinWithSpots_2 at hw
    dsimp only at hw
    refine lv_iload_n hx hb d_NJ_joinWithSpots_2 rfl (lv_at hl 3 rfl) ?_
    refine mx_aload_n (r := x2) hx hb d_NJ_joinWithSpots_3 rfl (lv_at hl 2 rfl) ?_
    obtain ⟨a3, ea3, t4, hw⟩ := hw
    refine W.eq (g2 := F0 m 4 ls [va_rf (some a3), .int x3]) (by rw [← ea3] <;> rfl) ?_
    refine mx_calli (va_runV (b := a3) (As := []) (rest := [.int x3]) ⟨hx, hb, hml, hown, hW⟩ (mt_AL_size l D cs Z _ hw) (mx_cwV hW ok_AL_size kw_192 rfl rfl ⟨Nat.le_of_ble_eq_true rfl, Nat.le_of_ble_eq_true rfl⟩) (mx_preV hK hZ hA hR (ci := 9) rfl t4) rfl rfl hl.1 rfl (lv_room (Nat.le_of_ble_eq_true rfl)) d_NJ_joinWithSpots_4 ⟨Nat.le_of_ble_eq_true rfl, Nat.le_of_ble_eq_true rfl⟩) hR hA (fun r1 h2 H locs hw hR => ?_)
    try dsimp only at hw
    refine lv_icmp_ge (tgt := 53) hx hb d_NJ_joinWithSpots_7 (by decide) (fun c5 => ?_) (fun c5 => ?_)
    · have hw := hw.1 c5
      exact mx_vret hx hb hr hlocks hR hw d_NJ_joinWithSpots_53
    · have hw := hw.2 c5
      refine mx_aload_n (r := x1) hx hb d_NJ_joinWithSpots_10 rfl (lv_at hl 1 rfl) ?_
      refine mx_aload_n (r := x2) hx hb d_NJ_joinWithSpots_11 rfl (lv_at hl 2 rfl) ?_
      refine lv_iload_n hx hb d_NJ_joinWithSpots_12 rfl (lv_at hl 3 rfl) ?_
      obtain ⟨a8, ea8, t9, hw⟩ := hw
      refine W.eq (g2 := F0 m 13 ls [.int x3, va_rf (some a8), va_rf x1]) (by rw [← ea8] <;> rfl) ?_
      refine mx_callr (va_runV (b := a8) (As := [.int x3]) (rest := [va_rf x1]) ⟨hx, hb, hml, hown, hW⟩ (mt_AL_get l D cs Z _ hw) (mx_cwV hW ok_AL_get kw_196 rfl rfl ⟨Nat.le_of_ble_eq_true rfl, Nat.le_of_ble_eq_true rfl⟩) (mx_preV hK hZ hA hR (ci := 9) rfl t9) rfl rfl hl.1 rfl (lv_room (by simp [mx_rf_cat, cat_i, cat_l])) d_NJ_joinWithSpots_13 ⟨Nat.le_of_ble_eq_true rfl, Nat.le_of_ble_eq_true rfl⟩) hR hA (fun r6 h7 H locs hw hR => ?_)
      try dsimp only at hw
      obtain ⟨t10, hw⟩ := hw
      refine mx_cast (ci := 6) (C := "NetJoins$Spot") (T := F_Spot) (N := 6) hx hb hW hown hK.1 hR rfl kw_210 t10 d_NJ_joinWithSpots_16 ?_
      obtain ⟨a13, ea13, t14, hw⟩ := hw
      refine W.eq (g2 := F0 m 19 ls [va_rf r6, va_rf (some a13)]) (by rw [← ea13] <;> rfl) ?_
      refine mx_calli (va_runV (b := a13) (As := [va_rf r6]) (rest := []) ⟨hx, hb, hml, hown, hW⟩ (mt_Wire_goesThrough l D cs Z _ hw) (mx_cwV hW ok_Wire_goesThrough kw_260 rfl rfl ⟨Nat.le_of_ble_eq_true rfl, Nat.le_of_ble_eq_true rfl⟩) (mx_preV hK hZ hA hR (ci := 7) rfl t14) rfl rfl hl.1 rfl (lv_room (Nat.le_of_ble_eq_true rfl)) d_NJ_joinWithSpots_19 ⟨Nat.le_of_ble_eq_true rfl, Nat.le_of_ble_eq_true rfl⟩) hR hA (fun r11 h12 H locs hw hR => ?_)
      try dsimp only at hw
      refine lv_if_eq (tgt := 47) hx hb d_NJ_joinWithSpots_22 (by decide) (fun c15 => ?_) (fun c15 => ?_)
      · have hw := hw.1 c15
        exact mn_NJ_joinWithSpots_47 C post (lpF (wb_NJ_joinWithSpots_2 Z post v0) n) ih x1 x2 x3 _ _ _ _ hw (lv_sub hl [0, 1, 2, 3] rfl) hR
      · have hw := hw.2 c15
        refine mx_aload_n (r := some v0) hx hb d_NJ_joinWithSpots_25 rfl (lv_at hl 0 rfl) ?_
        obtain ⟨t16, hw⟩ := hw
        refine mx_get (ci := 0) (C := "NetJoins") (T := F_NJ) (N := 18) hx hb hW hown hK.1 hR (a := v0) rfl t16 rfl i_NJ 9 2 (by decide) rfl kw_129 (fun _ h9 => h9) d_NJ_joinWithSpots_26 ?_
        refine mx_aload_n (r := x1) hx hb d_NJ_joinWithSpots_29 rfl (lv_at hl 1 rfl) ?_
        refine mx_calli (va_runS (As := [va_rf x1]) (rest := [va_rf (gR h12 9 v0)]) ⟨hx, hb, hml, hown, hW⟩ (mt_NJ_thingOf l D cs Z _ hw) (mx_cwS hW ok_NJ_thingOf kw_323 rfl rfl ⟨Nat.le_of_ble_eq_true rfl, Nat.le_of_ble_eq_true rfl⟩) (mx_preS hK hZ hA hR) rfl rfl hl.1 rfl (lv_room (by simp [mx_rf_cat, cat_i, cat_l])) d_NJ_joinWithSpots_30 ⟨Nat.le_of_ble_eq_true rfl, Nat.le_of_ble_eq_true rfl⟩) hR hA (fun r17 h18 H locs hw hR => ?_)
        try dsimp only at hw
        refine mx_aload_n (r := x2) hx hb d_NJ_joinWithSpots_33 rfl (lv_at hl 2 rfl) ?_
        refine lv_iload_n hx hb d_NJ_joinWithSpots_34 rfl (lv_at hl 3 rfl) ?_
        obtain ⟨a21, ea21, t22, hw⟩ := hw
        refine W.eq (g2 := F0 m 35 ls [.int x3, va_rf (some a21), .int r17, va_rf (gR h12 9 v0)]) (by rw [← ea21] <;> rfl) ?_
        refine mx_callr (va_runV (b := a21) (As := [.int x3]) (rest := [.int r17, va_rf (gR h12 9 v0)]) ⟨hx, hb, hml, hown, hW⟩ (mt_AL_get l D cs Z _ hw) (mx_cwV hW ok_AL_get kw_196 rfl rfl ⟨Nat.le_of_ble_eq_true rfl, Nat.le_of_ble_eq_true rfl⟩) (mx_preV hK hZ hA hR (ci := 9) rfl t22) rfl rfl hl.1 rfl (lv_room (by simp [mx_rf_cat, cat_i, cat_l])) d_NJ_joinWithSpots_35 ⟨Nat.le_of_ble_eq_true rfl, Nat.le_of_ble_eq_true rfl⟩) hR hA (fun r19 h20 H locs hw hR => ?_)
        try dsimp only at hw
        obtain ⟨t23, hw⟩ := hw
        refine mx_cast (ci := 6) (C := "NetJoins$Spot") (T := F_Spot) (N := 6) hx hb hW hown hK.1 hR rfl kw_210 t23 d_NJ_joinWithSpots_38 ?_
        obtain ⟨a24, ea24, t25, hw⟩ := hw
        refine mx_get (ci := 6) (C := "NetJoins$Spot") (T := F_Spot) (N := 6) hx hb hW hown hK.1 hR (a := a24) ea24 t25 rfl i_Spot 4 0 (by decide) rfl kw_710 (fun _ h9 => h9) d_NJ_joinWithSpots_41 ?_
        obtain ⟨a28, ea28, t29, hw⟩ := hw
        refine W.eq (g2 := F0 m 44 ls [.int (gI h20 604 a24), .int r17, va_rf (some a28)]) (by rw [← ea28] <;> rfl) ?_
        refine mx_callv (va_runV (b := a28) (As := [.int r17, .int (gI h20 604 a24)]) (rest := []) ⟨hx, hb, hml, hown, hW⟩ (mt_Joins_join l D cs Z _ hw) (mx_cwV hW ok_Joins_join kw_326 rfl rfl ⟨Nat.le_of_ble_eq_true rfl, Nat.le_of_ble_eq_true rfl⟩) (mx_preV hK hZ hA hR (ci := 2) rfl t29) rfl rfl hl.1 rfl (lv_room (Nat.le_of_ble_eq_true rfl)) d_NJ_joinWithSpots_44 ⟨Nat.le_of_ble_eq_true rfl, Nat.le_of_ble_eq_true rfl⟩) hR hA (fun h27 H locs hw hR => ?_)
        try dsimp only at hw
        exact mn_NJ_joinWithSpots_47 C post (lpF (wb_NJ_joinWithSpots_2 Z post v0) n) ih x1 x2 x3 _ _ _ _ hw (lv_sub hl [0, 1, 2, 3] rfl) hR
set_option maxHeartbeats 4000000 in
set_option maxRecDepth 100000 in
theorem mt_NJ_joinWithSpots (l : Launch) (D : va_G) (cs : CS) (Z : Nat → Nat) (sz : Nat) {post : HS → Prop} {h : HS} {v0 : Nat} {x1 : Option Nat} {x2 : Option Nat} (hw : wp_NJ_joinWithSpots Z post h v0 x1 x2) : Met l y_NJ_joinWithSpots (Cond.code y_NJ_joinWithSpots c_NJ_joinWithSpots 4 none :: WA) ({ frames := 5, cells := 0, slots := 0, locals := 164 } : Room) (mPc D cs Z h sz [va_rf (some v0), va_rf x1, va_rf x2]) (va_Qv post (mB D cs h sz) (fA h sz)) 0 0 (fA h sz) := by
  refine mx_met (fun sz => va_Qv post (mB D cs h sz) (fA h sz)) (by decide) (by simp [lg_sl, mx_rf_cat, cat_i, cat_l]) ?_
  intro p e s m args below meth c C hR ls hl
  have hl : lv_has ls 4 [(0, va_rf (some v0)), (1, va_rf x1), (2, va_rf x2)] := by simpa [lv_args, mx_rf_cat, cat_i, cat_l] using hl
  obtain ⟨hx, hb, hr, hml, hown, hW, hlocks, hnm, hK, hZ⟩ := id C
  have hown : s.vm.findClass "NetJoins" = some m.cls := hown
  have hA : ∀ q, s.heap.size ≤ q → fA h s.heap.size q := fun _ h => Or.inr h
  unfold wp_NJ_joinWithSpots at hw
  refine lv_iconst (v := 0) hx hb d_NJ_joinWithSpots_0 (by decide) ?_
  refine lv_istore_n (i := 3) (lv' := [(3, .int (0 : Int32)), (0, va_rf (some v0)), (1, va_rf x1), (2, va_rf x2)]) hx hb d_NJ_joinWithSpots_1 rfl hl (by decide) (by simp [mx_rf_cat]) (fun ls hl => ?_)
  obtain ⟨n9, hw⟩ := hw
  exact mn_NJ_joinWithSpots_2 C post n9 x1 x2 (0 : Int32) _ _ _ _ hw (lv_sub hl [1, 2, 3, 0] rfl) hR
set_option maxHeartbeats 4000000 in
set_option maxRecDepth 100000 in
theorem mn_NJ_spreadOver_46 {D : va_G} {cs : CS} {Z : Nat → Nat} {h0 : HS} {p : Program} {l : Launch} {e : Env} {s : State} {m : MethodId} {args : Array Value} {below : List Frame} {meth : Method} {c : Code} {v0 : Nat} (C : mC D cs Z h0 y_NJ_spreadOver c_NJ_spreadOver 3 none p s m args meth c) (post : HS → Prop) (K2 : Int32 × Int32 × HS → Prop) (hK2 : ∀ (x1 : Int32) (x2 : Int32) (h : HS) (H : Heap) (locs : List Loc) (ls : Array Slot), K2 (x1, x2, h) → lv_has ls 3 [(0, va_rf (some v0)), (1, .int x1), (2, .int x2)] → mR D cs (fA h0 s.heap.size) h s.heap H locs → W p l e ({ frames := 8, cells := 0, slots := 0, locals := 232 } : Room) s m args below meth c H locs 0 0 (MQ below (va_Qv post (mB D cs h0 s.heap.size) (fA h0 s.heap.size)) args s 0 0 (fA h0 s.heap.size)) (F0 m 2 ls [])) : ∀ (x1 : Int32) (x2 : Int32) (h : HS) (H : Heap) (locs : List Loc) (ls : Array Slot), wj_NJ_spreadOver_46 Z post K2 v0 x1 x2 h → lv_has ls 3 [(0, va_rf (some v0)), (1, .int x1), (2, .int x2)] → mR D cs (fA h0 s.heap.size) h s.heap H locs → W p l e ({ frames := 8, cells := 0, slots := 0, locals := 232 } : Room) s m args below meth c H locs 0 0 (MQ below (va_Qv post (mB D cs h0 s.heap.size) (fA h0 s.heap.size)) args s 0 0 (fA h0 s.heap.size)) (F0 m 46 ls []) := by
  obtain ⟨hx, hb, hr, hml, hown, hW, hlocks, hnm, hK, hZ⟩ := id C
  have hown : s.vm.findClass "NetJoins" = some m.cls := hown
  have hA : ∀ q, s.heap.size ≤ q → fA h0 s.heap.size q := fun _ h => Or.inr h
  intro x1 x2 h H locs ls hw hl hR
  unfold wj_NJ_spreadOver_46 at hw
  obtain ⟨y1, ey1⟩ : ∃ y : Int32, y = x2 + (1 : Int32) := ⟨_, rfl⟩
  have hw := hw y1 ey1
  refine lv_iinc (v := y1) (lv' := [(2, .int y1), (0, va_rf (some v0)), (1, .int x1)]) hx hb d_NJ_spreadOver_46 hl (k := 2) rfl (by rw [ey1]; rfl) (by decide) rfl (fun ls hl => ?_)
  refine lv_goto (tgt := 2) hx hb d_NJ_spreadOver_49 (by decide) ?_
  exact hK2 x1 y1 _ _ _ _ hw (lv_sub hl [1, 2, 0] rfl) hR
set_option maxHeartbeats 4000000 in
set_option maxRecDepth 100000 in
theorem mn_NJ_spreadOver_2 {D : va_G} {cs : CS} {Z : Nat → Nat} {h0 : HS} {p : Program} {l : Launch} {e : Env} {s : State} {m : MethodId} {args : Array Value} {below : List Frame} {meth : Method} {c : Code} {v0 : Nat} (C : mC D cs Z h0 y_NJ_spreadOver c_NJ_spreadOver 3 none p s m args meth c) (post : HS → Prop) : ∀ (n : Nat) (x1 : Int32) (x2 : Int32) (h : HS) (H : Heap) (locs : List Loc) (ls : Array Slot), lpF (wb_NJ_spreadOver_2 Z post v0) n (x1, x2, h) → lv_has ls 3 [(0, va_rf (some v0)), (1, .int x1), (2, .int x2)] → mR D cs (fA h0 s.heap.size) h s.heap H locs → W p l e ({ frames := 8, cells := 0, slots := 0, locals := 232 } : Room) s m args below meth c H locs 0 0 (MQ below (va_Qv post (mB D cs h0 s.heap.size) (fA h0 s.heap.size)) args s 0 0 (fA h0 s.heap.size)) (F0 m 2 ls []) := by
  obtain ⟨hx, hb, hr, hml, hown, hW, hlocks, hnm, hK, hZ⟩ := id C
  have hown : s.vm.findClass "NetJoins" = some m.cls := hown
  have hA : ∀ q, s.heap.size ≤ q → fA h0 s.heap.size q := fun _ h => Or.inr h
  intro n
  induction n with
  | zero => intro x1 x2 h H locs ls hw; exact hw.elim
  | succ n ih =>
    intro x1 x2 h H locs ls hw hl hR
    have hw : wb_NJ_spreadOver_2 Z post v0 (lpF (wb_NJ_spreadOver_2 Z post v0) n) (x1, x2, h) := hw
    unfold wb_NJ_spreadOver_2 at hw
    dsimp only at hw
    refine lv_iload_n hx hb d_NJ_spreadOver_2 rfl (lv_at hl 2 rfl) ?_
    refine mx_aload_n (r := some v0) hx hb d_NJ_spreadOver_3 rfl (lv_at hl 0 rfl) ?_
    obtain ⟨t1, hw⟩ := hw
    refine mx_get (ci := 0) (C := "NetJoins") (T := F_NJ) (N := 18) hx hb hW hown hK.1 hR (a := v0) rfl t1 rfl i_NJ 0 2 (by decide) rfl kw_120 (fun _ h9 => h9) d_NJ_spreadOver_4 ?_
    obtain ⟨a4, ea4, t5, hw⟩ := hw
    refine W.eq (g2 := F0 m 7 ls [va_rf (some a4), .int x2]) (by rw [← ea4] <;> rfl) ?_
    refine mx_calli (va_runV (b := a4) (As := []) (rest := [.int x2]) ⟨hx, hb, hml, hown, hW⟩ (mt_AL_size l D cs Z _ hw) (mx_cwV hW ok_AL_size kw_192 rfl rfl ⟨Nat.le_of_ble_eq_true rfl, Nat.le_of_ble_eq_true rfl⟩) (mx_preV hK hZ hA hR (ci := 9) rfl t5) rfl rfl hl.1 rfl (lv_room (Nat.le_of_ble_eq_true rfl)) d_NJ_spreadOver_7 ⟨Nat.le_of_ble_eq_true rfl, Nat.le_of_ble_eq_true rfl⟩) hR hA (fun r2 h3 H locs hw hR => ?_)
    try dsimp only at hw
    refine lv_icmp_ge (tgt := 52) hx hb d_NJ_spreadOver_10 (by decide) (fun c6 => ?_) (fun c6 => ?_)
    · have hw := hw.1 c6
      exact mx_vret hx hb hr hlocks hR hw d_NJ_spreadOver_52
    · have hw := hw.2 c6
      refine mx_aload_n (r := some v0) hx hb d_NJ_spreadOver_13 rfl (lv_at hl 0 rfl) ?_
      obtain ⟨t7, hw⟩ := hw
      refine mx_get (ci := 0) (C := "NetJoins") (T := F_NJ) (N := 18) hx hb hW hown hK.1 hR (a := v0) rfl t7 rfl i_NJ 0 2 (by decide) rfl kw_120 (fun _ h9 => h9) d_NJ_spreadOver_14 ?_
      refine lv_iload_n hx hb d_NJ_spreadOver_17 rfl (lv_at hl 2 rfl) ?_
      obtain ⟨a10, ea10, t11, hw⟩ := hw
      refine W.eq (g2 := F0 m 18 ls [.int x2, va_rf (some a10)]) (by rw [← ea10] <;> rfl) ?_
      refine mx_callr (va_runV (b := a10) (As := [.int x2]) (rest := []) ⟨hx, hb, hml, hown, hW⟩ (mt_AL_get l D cs Z _ hw) (mx_cwV hW ok_AL_get kw_196 rfl rfl ⟨Nat.le_of_ble_eq_true rfl, Nat.le_of_ble_eq_true rfl⟩) (mx_preV hK hZ hA hR (ci := 9) rfl t11) rfl rfl hl.1 rfl (lv_room (Nat.le_of_ble_eq_true rfl)) d_NJ_spreadOver_18 ⟨Nat.le_of_ble_eq_true rfl, Nat.le_of_ble_eq_true rfl⟩) hR hA (fun r8 h9 H locs hw hR => ?_)
      try dsimp only at hw
      obtain ⟨t12, hw⟩ := hw
      refine mx_cast (ci := 5) (C := "NetJoins$Sheet") (T := F_Sheet) (N := 5) hx hb hW hown hK.1 hR rfl kw_211 t12 d_NJ_spreadOver_21 ?_
      obtain ⟨a13, ea13, t14, hw⟩ := hw
      refine mx_get (ci := 5) (C := "NetJoins$Sheet") (T := F_Sheet) (N := 5) hx hb hW hown hK.1 hR (a := a13) ea13 t14 rfl i_Sheet 2 0 (by decide) rfl kw_526 (fun _ h9 => h9) d_NJ_spreadOver_24 ?_
      refine lv_iload_n hx hb d_NJ_spreadOver_27 rfl (lv_at hl 1 rfl) ?_
      refine lv_icmp_ne (tgt := 46) hx hb d_NJ_spreadOver_28 (by decide) (fun c15 => ?_) (fun c15 => ?_)
      · have hw := hw.1 c15
        exact mn_NJ_spreadOver_46 C post (lpF (wb_NJ_spreadOver_2 Z post v0) n) ih x1 x2 _ _ _ _ hw (lv_sub hl [0, 1, 2] rfl) hR
      · have hw := hw.2 c15
        refine mx_aload_n (r := some v0) hx hb d_NJ_spreadOver_31 rfl (lv_at hl 0 rfl) ?_
        refine mx_aload_n (r := some v0) hx hb d_NJ_spreadOver_32 rfl (lv_at hl 0 rfl) ?_
        obtain ⟨t16, hw⟩ := hw
        refine mx_get (ci := 0) (C := "NetJoins") (T := F_NJ) (N := 18) hx hb hW hown hK.1 hR (a := v0) rfl t16 rfl i_NJ 0 2 (by decide) rfl kw_120 (fun _ h9 => h9) d_NJ_spreadOver_33 ?_
        refine lv_iload_n hx hb d_NJ_spreadOver_36 rfl (lv_at hl 2 rfl) ?_
        obtain ⟨a19, ea19, t20, hw⟩ := hw
        refine W.eq (g2 := F0 m 37 ls [.int x2, va_rf (some a19), va_rf (some v0)]) (by rw [← ea19] <;> rfl) ?_
        refine mx_callr (va_runV (b := a19) (As := [.int x2]) (rest := [va_rf (some v0)]) ⟨hx, hb, hml, hown, hW⟩ (mt_AL_get l D cs Z _ hw) (mx_cwV hW ok_AL_get kw_196 rfl rfl ⟨Nat.le_of_ble_eq_true rfl, Nat.le_of_ble_eq_true rfl⟩) (mx_preV hK hZ hA hR (ci := 9) rfl t20) rfl rfl hl.1 rfl (lv_room (Nat.le_of_ble_eq_true rfl)) d_NJ_spreadOver_37 ⟨Nat.le_of_ble_eq_true rfl, Nat.le_of_ble_eq_true rfl⟩) hR hA (fun r17 h18 H locs hw hR => ?_)
        try dsimp only at hw
        obtain ⟨t21, hw⟩ := hw
        refine mx_cast (ci := 5) (C := "NetJoins$Sheet") (T := F_Sheet) (N := 5) hx hb hW hown hK.1 hR rfl kw_211 t21 d_NJ_spreadOver_40 ?_
        obtain ⟨t24, hw⟩ := hw
        refine mx_callv (va_runV (b := v0) (As := [va_rf r17]) (rest := []) ⟨hx, hb, hml, hown, hW⟩ (mt_NJ_spreadOn l D cs Z _ hw) (mx_cwV hW ok_NJ_spreadOn kw_348 rfl rfl ⟨Nat.le_of_ble_eq_true rfl, Nat.le_of_ble_eq_true rfl⟩) (mx_preV hK hZ hA hR (ci := 0) rfl t24) rfl rfl hl.1 rfl (lv_room (Nat.le_of_ble_eq_true rfl)) d_NJ_spreadOver_43 ⟨Nat.le_of_ble_eq_true rfl, Nat.le_of_ble_eq_true rfl⟩) hR hA (fun h23 H locs hw hR => ?_)
        try dsimp only at hw
        exact mn_NJ_spreadOver_46 C post (lpF (wb_NJ_spreadOver_2 Z post v0) n) ih x1 x2 _ _ _ _ hw (lv_sub hl [0, 1, 2] rfl) hR
set_option maxHeartbeats 4000000 in
set_option maxRecDepth 100000 in
theorem mt_NJ_spreadOver (l : Launch) (D : va_G) (cs : CS) (Z : Nat → Nat) (sz : Nat) {post : HS → Prop} {h : HS} {v0 : Nat} {x1 : Int32} (hw : wp_NJ_spreadOver Z post h v0 x1) : Met l y_NJ_spreadOver (Cond.code y_NJ_spreadOver c_NJ_spreadOver 3 none :: WA) ({ frames := 8, cells := 0, slots := 0, locals := 232 } : Room) (mPc D cs Z h sz [va_rf (some v0), .int x1]) (va_Qv post (mB D cs h sz) (fA h sz)) 0 0 (fA h sz) := by
  refine mx_met (fun sz => va_Qv post (mB D cs h sz) (fA h sz)) (by decide) (by simp [lg_sl, mx_rf_cat, cat_i, cat_l]) ?_
  intro p e s m args below meth c C hR ls hl
  have hl : lv_has ls 3 [(0, va_rf (some v0)), (1, .int x1)] := hl
  obtain ⟨hx, hb, hr, hml, hown, hW, hlocks, hnm, hK, hZ⟩ := id C
  have hown : s.vm.findClass "NetJoins" = some m.cls := hown
  have hA : ∀ q, s.heap.size ≤ q → fA h s.heap.size q := fun _ h => Or.inr h
  unfold wp_NJ_spreadOver at hw
  refine lv_iconst (v := 0) hx hb d_NJ_spreadOver_0 (by decide) ?_
  refine lv_istore_n (i := 2) (lv' := [(2, .int (0 : Int32)), (0, va_rf (some v0)), (1, .int x1)]) hx hb d_NJ_spreadOver_1 rfl hl (by decide) rfl (fun ls hl => ?_)
  obtain ⟨n9, hw⟩ := hw
  exact mn_NJ_spreadOver_2 C post n9 x1 (0 : Int32) _ _ _ _ hw (lv_sub hl [1, 2, 0] rfl) hR
set_option maxHeartbeats 4000000 in
set_option maxRecDepth 100000 in
theorem mn_NJ_putByName_40 {D : va_G} {cs : CS} {Z : Nat → Nat} {h0 : HS} {p : Program} {l : Launch} {e : Env} {s : State} {m : MethodId} {args : Array Value} {below : List Frame} {meth : Method} {c : Code} {v0 : Nat} (C : mC D cs Z h0 y_NJ_putByName c_NJ_putByName 3 none p s m args meth c) (post : HS → Prop) : ∀ (x1 : Option Nat) (x2 : Int32) (h : HS) (H : Heap) (locs : List Loc) (ls : Array Slot), wj_NJ_putByName_40 Z post v0 x1 x2 h → lv_has ls 3 [(0, va_rf (some v0)), (1, va_rf x1), (2, .int x2)] → mR D cs (fA h0 s.heap.size) h s.heap H locs → W p l e ({ frames := 8, cells := 2, slots := 206, locals := 411 } : Room) s m args below meth c H locs 0 0 (MQ below (va_Qv post (mB D cs h0 s.heap.size) (fA h0 s.heap.size)) args s 2 206 (fA h0 s.heap.size)) (F0 m 40 ls []) := by
  obtain ⟨hx, hb, hr, hml, hown, hW, hlocks, hnm, hK, hZ⟩ := id C
  have hown : s.vm.findClass "NetJoins" = some m.cls := hown
  have hA : ∀ q, s.heap.size ≤ q → fA h0 s.heap.size q := fun _ h => Or.inr h
  intro x1 x2 h H locs ls hw hl hR
  unfold wj_NJ_putByName_40 at hw
  refine mx_aload_n (r := some v0) hx hb d_NJ_putByName_40 rfl (lv_at hl 0 rfl) ?_
  obtain ⟨t1, hw⟩ := hw
  refine mx_get (ci := 0) (C := "NetJoins") (T := F_NJ) (N := 18) hx hb hW hown hK.1 hR (a := v0) rfl t1 rfl i_NJ 4 2 (by decide) rfl kw_124 (fun _ h9 => h9) d_NJ_putByName_41 ?_
  refine lv_iload_n hx hb d_NJ_putByName_44 rfl (lv_at hl 2 rfl) ?_
  refine mx_aload_n (r := x1) hx hb d_NJ_putByName_45 rfl (lv_at hl 1 rfl) ?_
  obtain ⟨a4, ea4, t5, hw⟩ := hw
  refine W.eq (g2 := F0 m 46 ls [va_rf x1, .int x2, va_rf (some a4)]) (by rw [← ea4] <;> rfl) ?_
  refine mx_callv (va_runV (b := a4) (As := [.int x2, va_rf x1]) (rest := []) ⟨hx, hb, hml, hown, hW⟩ (mt_AL_add3 l D cs Z _ hw) (mx_cwV hW ok_AL_add3 kw_740 rfl rfl ⟨Nat.le_of_ble_eq_true rfl, Nat.le_of_ble_eq_true rfl⟩) (mx_preV hK hZ hA hR (ci := 9) rfl t5) rfl rfl hl.1 rfl (lv_room (Nat.le_of_ble_eq_true rfl)) d_NJ_putByName_46 ⟨Nat.le_of_ble_eq_true rfl, Nat.le_of_ble_eq_true rfl⟩) hR hA (fun h3 H locs hw hR => ?_)
  refine W.widen (k := 2) (n := 206) (by decide) (by decide) ?_
  try dsimp only at hw
  exact mx_vret hx hb hr hlocks hR hw d_NJ_putByName_49
set_option maxHeartbeats 4000000 in
set_option maxRecDepth 100000 in
theorem mn_NJ_putByName_2 {D : va_G} {cs : CS} {Z : Nat → Nat} {h0 : HS} {p : Program} {l : Launch} {e : Env} {s : State} {m : MethodId} {args : Array Value} {below : List Frame} {meth : Method} {c : Code} {v0 : Nat} (C : mC D cs Z h0 y_NJ_putByName c_NJ_putByName 3 none p s m args meth c) (post : HS → Prop) : ∀ (n : Nat) (x1 : Option Nat) (x2 : Int32) (h : HS) (H : Heap) (locs : List Loc) (ls : Array Slot), lpF (wb_NJ_putByName_2 Z post v0) n (x1, x2, h) → lv_has ls 3 [(0, va_rf (some v0)), (1, va_rf x1), (2, .int x2)] → mR D cs (fA h0 s.heap.size) h s.heap H locs → W p l e ({ frames := 8, cells := 2, slots := 206, locals := 411 } : Room) s m args below meth c H locs 0 0 (MQ below (va_Qv post (mB D cs h0 s.heap.size) (fA h0 s.heap.size)) args s 2 206 (fA h0 s.heap.size)) (F0 m 2 ls []) := by
  obtain ⟨hx, hb, hr, hml, hown, hW, hlocks, hnm, hK, hZ⟩ := id C
  have hown : s.vm.findClass "NetJoins" = some m.cls := hown
  have hA : ∀ q, s.heap.size ≤ q → fA h0 s.heap.size q := fun _ h => Or.inr h
  intro n
  induction n with
  | zero => intro x1 x2 h H locs ls hw; exact hw.elim
  | succ n ih =>
    intro x1 x2 h H locs ls hw hl hR
    have hw : wb_NJ_putByName_2 Z post v0 (lpF (wb_NJ_putByName_2 Z post v0) n) (x1, x2, h) := hw
    unfold wb_NJ_putByName_2 at hw
    dsimp only at hw
    refine lv_iload_n hx hb d_NJ_putByName_2 rfl (lv_at hl 2 rfl) ?_
    refine mx_aload_n (r := some v0) hx hb d_NJ_putByName_3 rfl (lv_at hl 0 rfl) ?_
    obtain ⟨t1, hw⟩ := hw
    refine mx_get (ci := 0) (C := "NetJoins") (T := F_NJ) (N := 18) hx hb hW hown hK.1 hR (a := v0) rfl t1 rfl i_NJ 4 2 (by decide) rfl kw_124 (fun _ h9 => h9) d_NJ_putByName_4 ?_
    obtain ⟨a4, ea4, t5, hw⟩ := hw
    refine W.eq (g2 := F0 m 7 ls [va_rf (some a4), .int x2]) (by rw [← ea4] <;> rfl) ?_
    refine mx_calli (va_runV (b := a4) (As := []) (rest := [.int x2]) ⟨hx, hb, hml, hown, hW⟩ (mt_AL_size l D cs Z _ hw) (mx_cwV hW ok_AL_size kw_192 rfl rfl ⟨Nat.le_of_ble_eq_true rfl, Nat.le_of_ble_eq_true rfl⟩) (mx_preV hK hZ hA hR (ci := 9) rfl t5) rfl rfl hl.1 rfl (lv_room (Nat.le_of_ble_eq_true rfl)) d_NJ_putByName_7 ⟨Nat.le_of_ble_eq_true rfl, Nat.le_of_ble_eq_true rfl⟩) hR hA (fun r2 h3 H locs hw hR => ?_)
    try dsimp only at hw
    refine lv_icmp_ge (tgt := 40) hx hb d_NJ_putByName_10 (by decide) (fun c6 => ?_) (fun c6 => ?_)
    · have hw := hw.1 c6
      exact mn_NJ_putByName_40 C post x1 x2 _ _ _ _ hw (lv_sub hl [0, 1, 2] rfl) hR
    · have hw := hw.2 c6
      refine mx_aload_n (r := some v0) hx hb d_NJ_putByName_13 rfl (lv_at hl 0 rfl) ?_
      obtain ⟨t7, hw⟩ := hw
      refine mx_get (ci := 0) (C := "NetJoins") (T := F_NJ) (N := 18) hx hb hW hown hK.1 hR (a := v0) rfl t7 rfl i_NJ 4 2 (by decide) rfl kw_124 (fun _ h9 => h9) d_NJ_putByName_14 ?_
      refine lv_iload_n hx hb d_NJ_putByName_17 rfl (lv_at hl 2 rfl) ?_
      obtain ⟨a10, ea10, t11, hw⟩ := hw
      refine W.eq (g2 := F0 m 18 ls [.int x2, va_rf (some a10)]) (by rw [← ea10] <;> rfl) ?_
      refine mx_callr (va_runV (b := a10) (As := [.int x2]) (rest := []) ⟨hx, hb, hml, hown, hW⟩ (mt_AL_get l D cs Z _ hw) (mx_cwV hW ok_AL_get kw_196 rfl rfl ⟨Nat.le_of_ble_eq_true rfl, Nat.le_of_ble_eq_true rfl⟩) (mx_preV hK hZ hA hR (ci := 9) rfl t11) rfl rfl hl.1 rfl (lv_room (Nat.le_of_ble_eq_true rfl)) d_NJ_putByName_18 ⟨Nat.le_of_ble_eq_true rfl, Nat.le_of_ble_eq_true rfl⟩) hR hA (fun r8 h9 H locs hw hR => ?_)
      try dsimp only at hw
      obtain ⟨t12, hw⟩ := hw
      refine mx_cast (ci := 6) (C := "NetJoins$Spot") (T := F_Spot) (N := 6) hx hb hW hown hK.1 hR rfl kw_210 t12 d_NJ_putByName_21 ?_
      obtain ⟨a13, ea13, t14, hw⟩ := hw
      refine mx_get (ci := 6) (C := "NetJoins$Spot") (T := F_Spot) (N := 6) hx hb hW hown hK.1 hR (a := a13) ea13 t14 rfl i_Spot 3 0 (by decide) rfl kw_708 (fun _ h9 => h9) d_NJ_putByName_24 ?_
      refine mx_aload_n (r := x1) hx hb d_NJ_putByName_27 rfl (lv_at hl 1 rfl) ?_
      obtain ⟨a15, ea15, t16, hw⟩ := hw
      refine mx_get (ci := 6) (C := "NetJoins$Spot") (T := F_Spot) (N := 6) hx hb hW hown hK.1 hR (a := a15) ea15 t16 rfl i_Spot 3 0 (by decide) rfl kw_708 (fun _ h9 => h9) d_NJ_putByName_28 ?_
      refine lv_icmp_gt (tgt := 40) hx hb d_NJ_putByName_31 (by decide) (fun c17 => ?_) (fun c17 => ?_)
      · have hw := hw.1 c17
        exact mn_NJ_putByName_40 C post x1 x2 _ _ _ _ hw (lv_sub hl [0, 1, 2] rfl) hR
      · have hw := hw.2 c17
        obtain ⟨y18, ey18⟩ : ∃ y : Int32, y = x2 + (1 : Int32) := ⟨_, rfl⟩
        have hw := hw y18 ey18
        refine lv_iinc (v := y18) (lv' := [(2, .int y18), (0, va_rf (some v0)), (1, va_rf x1)]) hx hb d_NJ_putByName_34 hl (k := 2) rfl (by rw [ey18]; rfl) (by decide) (by simp [mx_rf_cat]) (fun ls hl => ?_)
        refine lv_goto (tgt := 2) hx hb d_NJ_putByName_37 (by decide) ?_
        exact ih x1 y18 _ _ _ _ hw (lv_sub hl [1, 2, 0] rfl) hR
set_option maxHeartbeats 4000000 in
set_option maxRecDepth 100000 in
theorem mt_NJ_putByName (l : Launch) (D : va_G) (cs : CS) (Z : Nat → Nat) (sz : Nat) {post : HS → Prop} {h : HS} {v0 : Nat} {x1 : Option Nat} (hw : wp_NJ_putByName Z post h v0 x1) : Met l y_NJ_putByName (Cond.code y_NJ_putByName c_NJ_putByName 3 none :: WA) ({ frames := 8, cells := 2, slots := 206, locals := 411 } : Room) (mPc D cs Z h sz [va_rf (some v0), va_rf x1]) (va_Qv post (mB D cs h sz) (fA h sz)) 2 206 (fA h sz) := by
  refine mx_met (fun sz => va_Qv post (mB D cs h sz) (fA h sz)) (by decide) (by simp [lg_sl, mx_rf_cat, cat_i, cat_l]) ?_
  intro p e s m args below meth c C hR ls hl
  have hl : lv_has ls 3 [(0, va_rf (some v0)), (1, va_rf x1)] := by simpa [lv_args, mx_rf_cat, cat_i, cat_l] using hl
  obtain ⟨hx, hb, hr, hml, hown, hW, hlocks, hnm, hK, hZ⟩ := id C
  have hown : s.vm.findClass "NetJoins" = some m.cls := hown
  have hA : ∀ q, s.heap.size ≤ q → fA h s.heap.size q := fun _ h => Or.inr h
  unfold wp_NJ_putByName at hw
  refine lv_iconst (v := 0) hx hb d_NJ_putByName_0 (by decide) ?_
  refine lv_istore_n (i := 2) (lv' := [(2, .int (0 : Int32)), (0, va_rf (some v0)), (1, va_rf x1)]) hx hb d_NJ_putByName_1 rfl hl (by decide) (by simp [mx_rf_cat]) (fun ls hl => ?_)
  obtain ⟨n9, hw⟩ := hw
  exact mn_NJ_putByName_2 C post n9 x1 (0 : Int32) _ _ _ _ hw (lv_sub hl [1, 2, 0] rfl) hR
set_option maxHeartbeats 4000000 in
set_option maxRecDepth 100000 in
theorem mn_NJ_hasPinOf_52 {D : va_G} {cs : CS} {Z : Nat → Nat} {h0 : HS} {p : Program} {l : Launch} {e : Env} {s : State} {m : MethodId} {args : Array Value} {below : List Frame} {meth : Method} {c : Code} {v0 : Nat} (C : mC D cs Z h0 y_NJ_hasPinOf c_NJ_hasPinOf 9 (some .boolean) p s m args meth c) (post : Int32 → HS → Prop) (K3 : Int32 × Int32 × Int64 × Int64 × Int32 × HS → Prop) (hK3 : ∀ (x1 : Int32) (x2 : Int32) (x3 : Int64) (x5 : Int64) (x7 : Int32) (h : HS) (H : Heap) (locs : List Loc) (ls : Array Slot), K3 (x1, x2, x3, x5, x7, h) → lv_has ls 9 [(0, va_rf (some v0)), (1, .int x1), (2, .int x2), (3, .long x3), (5, .long x5), (7, .int x7)] → mR D cs (fA h0 s.heap.size) h s.heap H locs → W p l e ({ frames := 5, cells := 0, slots := 0, locals := 164 } : Room) s m args below meth c H locs 0 0 (MQ below (va_Qi post (mB D cs h0 s.heap.size) (fA h0 s.heap.size)) args s 0 0 (fA h0 s.heap.size)) (F0 m 3 ls [])) : ∀ (x1 : Int32) (x2 : Int32) (x3 : Int64) (x5 : Int64) (x7 : Int32) (h : HS) (H : Heap) (locs : List Loc) (ls : Array Slot), wj_NJ_hasPinOf_52 Z post K3 v0 x1 x2 x3 x5 x7 h → lv_has ls 9 [(0, va_rf (some v0)), (1, .int x1), (2, .int x2), (3, .long x3), (5, .long x5), (7, .int x7)] → mR D cs (fA h0 s.heap.size) h s.heap H locs → W p l e ({ frames := 5, cells := 0, slots := 0, locals := 164 } : Room) s m args below meth c H locs 0 0 (MQ below (va_Qi post (mB D cs h0 s.heap.size) (fA h0 s.heap.size)) args s 0 0 (fA h0 s.heap.size)) (F0 m 52 ls []) := by
  obtain ⟨hx, hb, hr, hml, hown, hW, hlocks, hnm, hK, hZ⟩ := id C
  have hown : s.vm.findClass "NetJoins" = some m.cls := hown
  have hA : ∀ q, s.heap.size ≤ q → fA h0 s.heap.size q := fun _ h => Or.inr h
  intro x1 x2 x3 x5 x7 h H locs ls hw hl hR
  unfold wj_NJ_hasPinOf_52 at hw
  obtain ⟨y1, ey1⟩ : ∃ y : Int32, y = x7 + (1 : Int32) := ⟨_, rfl⟩
  have hw := hw y1 ey1
  refine lv_iinc (v := y1) (lv' := [(7, .int y1), (0, va_rf (some v0)), (1, .int x1), (2, .int x2), (3, .long x3), (5, .long x5)]) hx hb d_NJ_hasPinOf_52 hl (k := 5) rfl (by rw [ey1]; rfl) (by decide) rfl (fun ls hl => ?_)
  refine lv_goto (tgt := 3) hx hb d_NJ_hasPinOf_55 (by decide) ?_
  exact hK3 x1 x2 x3 x5 y1 _ _ _ _ hw (lv_sub hl [1, 2, 3, 4, 5, 0] rfl) hR
set_option maxHeartbeats 4000000 in
set_option maxRecDepth 100000 in
theorem mn_NJ_hasPinOf_3 {D : va_G} {cs : CS} {Z : Nat → Nat} {h0 : HS} {p : Program} {l : Launch} {e : Env} {s : State} {m : MethodId} {args : Array Value} {below : List Frame} {meth : Method} {c : Code} {v0 : Nat} (C : mC D cs Z h0 y_NJ_hasPinOf c_NJ_hasPinOf 9 (some .boolean) p s m args meth c) (post : Int32 → HS → Prop) : ∀ (n : Nat) (x1 : Int32) (x2 : Int32) (x3 : Int64) (x5 : Int64) (x7 : Int32) (h : HS) (H : Heap) (locs : List Loc) (ls : Array Slot), lpF (wb_NJ_hasPinOf_3 Z post v0) n (x1, x2, x3, x5, x7, h) → lv_has ls 9 [(0, va_rf (some v0)), (1, .int x1), (2, .int x2), (3, .long x3), (5, .long x5), (7, .int x7)] → mR D cs (fA h0 s.heap.size) h s.heap H locs → W p l e ({ frames := 5, cells := 0, slots := 0, locals := 164 } : Room) s m args below meth c H locs 0 0 (MQ below (va_Qi post (mB D cs h0 s.heap.size) (fA h0 s.heap.size)) args s 0 0 (fA h0 s.heap.size)) (F0 m 3 ls []) := by
  obtain ⟨hx, hb, hr, hml, hown, hW, hlocks, hnm, hK, hZ⟩ := id C
  have hown : s.vm.findClass "NetJoins" = some m.cls := hown
  have hA : ∀ q, s.heap.size ≤ q → fA h0 s.heap.size q := fun _ h => Or.inr h
  intro n
  induction n with
  | zero => intro x1 x2 x3 x5 x7 h H locs ls hw; exact hw.elim
  | succ n ih =>
    intro x1 x2 x3 x5 x7 h H locs ls hw hl hR
    have hw : wb_NJ_hasPinOf_3 Z post v0 (lpF (wb_NJ_hasPinOf_3 Z post v0) n) (x1, x2, x3, x5, x7, h) := hw
    unfold wb_NJ_hasPinOf_3 at hw
    dsimp only at hw
    refine lv_iload hx hb d_NJ_hasPinOf_3 (lv_at hl 5 rfl) ?_
    refine mx_aload_n (r := some v0) hx hb d_NJ_hasPinOf_5 rfl (lv_at hl 0 rfl) ?_
    obtain ⟨t1, hw⟩ := hw
    refine mx_get (ci := 0) (C := "NetJoins") (T := F_NJ) (N := 18) hx hb hW hown hK.1 hR (a := v0) rfl t1 rfl i_NJ 5 2 (by decide) rfl kw_125 (fun _ h9 => h9) d_NJ_hasPinOf_6 ?_
    obtain ⟨a4, ea4, t5, hw⟩ := hw
    refine W.eq (g2 := F0 m 9 ls [va_rf (some a4), .int x7]) (by rw [← ea4] <;> rfl) ?_
    refine mx_calli (va_runV (b := a4) (As := []) (rest := [.int x7]) ⟨hx, hb, hml, hown, hW⟩ (mt_AL_size l D cs Z _ hw) (mx_cwV hW ok_AL_size kw_192 rfl rfl ⟨Nat.le_of_ble_eq_true rfl, Nat.le_of_ble_eq_true rfl⟩) (mx_preV hK hZ hA hR (ci := 9) rfl t5) rfl rfl hl.1 rfl (lv_room (Nat.le_of_ble_eq_true rfl)) d_NJ_hasPinOf_9 ⟨Nat.le_of_ble_eq_true rfl, Nat.le_of_ble_eq_true rfl⟩) hR hA (fun r2 h3 H locs hw hR => ?_)
    try dsimp only at hw
    refine lv_icmp_ge (tgt := 58) hx hb d_NJ_hasPinOf_12 (by decide) (fun c6 => ?_) (fun c6 => ?_)
    · have hw := hw.1 c6
      refine lv_iconst (v := 0) hx hb d_NJ_hasPinOf_58 (by decide) ?_
      exact mx_zret hx hb hr hlocks hR (Or.inl rfl) hw d_NJ_hasPinOf_59
    · have hw := hw.2 c6
      refine mx_aload_n (r := some v0) hx hb d_NJ_hasPinOf_15 rfl (lv_at hl 0 rfl) ?_
      obtain ⟨t7, hw⟩ := hw
      refine mx_get (ci := 0) (C := "NetJoins") (T := F_NJ) (N := 18) hx hb hW hown hK.1 hR (a := v0) rfl t7 rfl i_NJ 5 2 (by decide) rfl kw_125 (fun _ h9 => h9) d_NJ_hasPinOf_16 ?_
      refine lv_iload hx hb d_NJ_hasPinOf_19 (lv_at hl 5 rfl) ?_
      obtain ⟨a10, ea10, t11, hw⟩ := hw
      refine W.eq (g2 := F0 m 21 ls [.int x7, va_rf (some a10)]) (by rw [← ea10] <;> rfl) ?_
      refine mx_callr (va_runV (b := a10) (As := [.int x7]) (rest := []) ⟨hx, hb, hml, hown, hW⟩ (mt_AL_get l D cs Z _ hw) (mx_cwV hW ok_AL_get kw_196 rfl rfl ⟨Nat.le_of_ble_eq_true rfl, Nat.le_of_ble_eq_true rfl⟩) (mx_preV hK hZ hA hR (ci := 9) rfl t11) rfl rfl hl.1 rfl (lv_room (Nat.le_of_ble_eq_true rfl)) d_NJ_hasPinOf_21 ⟨Nat.le_of_ble_eq_true rfl, Nat.le_of_ble_eq_true rfl⟩) hR hA (fun r8 h9 H locs hw hR => ?_)
      try dsimp only at hw
      obtain ⟨t12, hw⟩ := hw
      refine mx_cast (ci := 6) (C := "NetJoins$Spot") (T := F_Spot) (N := 6) hx hb hW hown hK.1 hR rfl kw_210 t12 d_NJ_hasPinOf_24 ?_
      refine mx_astore (i := 8) (r := r8) (lv' := [(8, va_rf r8), (0, va_rf (some v0)), (1, .int x1), (2, .int x2), (3, .long x3), (5, .long x5), (7, .int x7)]) hx hb d_NJ_hasPinOf_27 hl (by decide) rfl (fun ls hl => ?_)
      refine mx_aload (r := r8) hx hb d_NJ_hasPinOf_29 (lv_at hl 0 rfl) ?_
      obtain ⟨a13, ea13, t14, hw⟩ := hw
      refine mx_get (ci := 6) (C := "NetJoins$Spot") (T := F_Spot) (N := 6) hx hb hW hown hK.1 hR (a := a13) ea13 t14 rfl i_Spot 3 0 (by decide) rfl kw_708 (fun _ h9 => h9) d_NJ_hasPinOf_31 ?_
      refine lv_iload_n hx hb d_NJ_hasPinOf_34 rfl (lv_at hl 2 rfl) ?_
      refine lv_icmp_ne (tgt := 52) hx hb d_NJ_hasPinOf_35 (by decide) (fun c15 => ?_) (fun c15 => ?_)
      · have hw := hw.1 c15
        exact mn_NJ_hasPinOf_52 C post (lpF (wb_NJ_hasPinOf_3 Z post v0) n) ih x1 x2 x3 x5 x7 _ _ _ _ hw (lv_sub hl [1, 2, 3, 4, 5, 6] rfl) hR
      · have hw := hw.2 c15
        refine mx_aload (r := r8) hx hb d_NJ_hasPinOf_38 (lv_at hl 0 rfl) ?_
        refine lv_iload_n hx hb d_NJ_hasPinOf_40 rfl (lv_at hl 3 rfl) ?_
        refine lv_lload_n hx hb d_NJ_hasPinOf_41 rfl (lv_at hl 4 rfl) ?_
        refine lv_lload hx hb d_NJ_hasPinOf_42 (lv_at hl 5 rfl) ?_
        obtain ⟨a18, ea18, t19, hw⟩ := hw
        refine W.eq (g2 := F0 m 44 ls [.long x5, .long x3, .int x2, va_rf (some a18)]) (by rw [← ea18] <;> rfl) ?_
        refine mx_calli (va_runV (b := a18) (As := [.int x2, .long x3, .long x5]) (rest := []) ⟨hx, hb, hml, hown, hW⟩ (mt_Spot_isAt l D cs Z _ hw) (mx_cwV hW ok_Spot_isAt kw_255 rfl rfl ⟨Nat.le_of_ble_eq_true rfl, Nat.le_of_ble_eq_true rfl⟩) (mx_preV hK hZ hA hR (ci := 6) rfl t19) rfl rfl hl.1 rfl (lv_room (Nat.le_of_ble_eq_true rfl)) d_NJ_hasPinOf_44 ⟨Nat.le_of_ble_eq_true rfl, Nat.le_of_ble_eq_true rfl⟩) hR hA (fun r16 h17 H locs hw hR => ?_)
        try dsimp only at hw
        refine lv_if_eq (tgt := 52) hx hb d_NJ_hasPinOf_47 (by decide) (fun c20 => ?_) (fun c20 => ?_)
        · have hw := hw.1 c20
          exact mn_NJ_hasPinOf_52 C post (lpF (wb_NJ_hasPinOf_3 Z post v0) n) ih x1 x2 x3 x5 x7 _ _ _ _ hw (lv_sub hl [1, 2, 3, 4, 5, 6] rfl) hR
        · have hw := hw.2 c20
          refine lv_iconst (v := 1) hx hb d_NJ_hasPinOf_50 (by decide) ?_
          exact mx_zret hx hb hr hlocks hR (Or.inr rfl) hw d_NJ_hasPinOf_51
set_option maxHeartbeats 4000000 in
set_option maxRecDepth 100000 in
theorem mt_NJ_hasPinOf (l : Launch) (D : va_G) (cs : CS) (Z : Nat → Nat) (sz : Nat) {post : Int32 → HS → Prop} {h : HS} {v0 : Nat} {x1 : Int32} {x2 : Int32} {x3 : Int64} {x5 : Int64} (hw : wp_NJ_hasPinOf Z post h v0 x1 x2 x3 x5) : Met l y_NJ_hasPinOf (Cond.code y_NJ_hasPinOf c_NJ_hasPinOf 9 (some .boolean) :: WA) ({ frames := 5, cells := 0, slots := 0, locals := 164 } : Room) (mPc D cs Z h sz [va_rf (some v0), .int x1, .int x2, .long x3, .long x5]) (va_Qi post (mB D cs h sz) (fA h sz)) 0 0 (fA h sz) := by
  refine mx_met (fun sz => va_Qi post (mB D cs h sz) (fA h sz)) (by decide) (by simp [lg_sl, mx_rf_cat, cat_i, cat_l]) ?_
  intro p e s m args below meth c C hR ls hl
  have hl : lv_has ls 9 [(0, va_rf (some v0)), (1, .int x1), (2, .int x2), (3, .long x3), (5, .long x5)] := hl
  obtain ⟨hx, hb, hr, hml, hown, hW, hlocks, hnm, hK, hZ⟩ := id C
  have hown : s.vm.findClass "NetJoins" = some m.cls := hown
  have hA : ∀ q, s.heap.size ≤ q → fA h s.heap.size q := fun _ h => Or.inr h
  unfold wp_NJ_hasPinOf at hw
  refine lv_iconst (v := 0) hx hb d_NJ_hasPinOf_0 (by decide) ?_
  refine lv_istore (i := 7) (lv' := [(7, .int (0 : Int32)), (0, va_rf (some v0)), (1, .int x1), (2, .int x2), (3, .long x3), (5, .long x5)]) hx hb d_NJ_hasPinOf_1 hl (by decide) rfl (fun ls hl => ?_)
  obtain ⟨n9, hw⟩ := hw
  exact mn_NJ_hasPinOf_3 C post n9 x1 x2 x3 x5 (0 : Int32) _ _ _ _ hw (lv_sub hl [1, 2, 3, 4, 5, 0] rfl) hR
set_option maxHeartbeats 4000000 in
set_option maxRecDepth 100000 in
theorem mn_NJ_hasPort_58 {D : va_G} {cs : CS} {Z : Nat → Nat} {h0 : HS} {p : Program} {l : Launch} {e : Env} {s : State} {m : MethodId} {args : Array Value} {below : List Frame} {meth : Method} {c : Code} {v0 : Nat} (C : mC D cs Z h0 y_NJ_hasPort c_NJ_hasPort 6 (some .boolean) p s m args meth c) (post : Int32 → HS → Prop) (K3 : Int32 × Int32 × Int32 × Int32 × HS → Prop) (hK3 : ∀ (x1 : Int32) (x2 : Int32) (x3 : Int32) (x4 : Int32) (h : HS) (H : Heap) (locs : List Loc) (ls : Array Slot), K3 (x1, x2, x3, x4, h) → lv_has ls 6 [(0, va_rf (some v0)), (1, .int x1), (2, .int x2), (3, .int x3), (4, .int x4)] → mR D cs (fA h0 s.heap.size) h s.heap H locs → W p l e ({ frames := 5, cells := 0, slots := 0, locals := 164 } : Room) s m args below meth c H locs 0 0 (MQ below (va_Qi post (mB D cs h0 s.heap.size) (fA h0 s.heap.size)) args s 0 0 (fA h0 s.heap.size)) (F0 m 3 ls [])) : ∀ (x1 : Int32) (x2 : Int32) (x3 : Int32) (x4 : Int32) (h : HS) (H : Heap) (locs : List Loc) (ls : Array Slot), wj_NJ_hasPort_58 Z post K3 v0 x1 x2 x3 x4 h → lv_has ls 6 [(0, va_rf (some v0)), (1, .int x1), (2, .int x2), (3, .int x3), (4, .int x4)] → mR D cs (fA h0 s.heap.size) h s.heap H locs → W p l e ({ frames := 5, cells := 0, slots := 0, locals := 164 } : Room) s m args below meth c H locs 0 0 (MQ below (va_Qi post (mB D cs h0 s.heap.size) (fA h0 s.heap.size)) args s 0 0 (fA h0 s.heap.size)) (F0 m 58 ls []) := by
  obtain ⟨hx, hb, hr, hml, hown, hW, hlocks, hnm, hK, hZ⟩ := id C
  have hown : s.vm.findClass "NetJoins" = some m.cls := hown
  have hA : ∀ q, s.heap.size ≤ q → fA h0 s.heap.size q := fun _ h => Or.inr h
  intro x1 x2 x3 x4 h H locs ls hw hl hR
  unfold wj_NJ_hasPort_58 at hw
  obtain ⟨y1, ey1⟩ : ∃ y : Int32, y = x4 + (1 : Int32) := ⟨_, rfl⟩
  have hw := hw y1 ey1
  refine lv_iinc (v := y1) (lv' := [(4, .int y1), (0, va_rf (some v0)), (1, .int x1), (2, .int x2), (3, .int x3)]) hx hb d_NJ_hasPort_58 hl (k := 4) rfl (by rw [ey1]; rfl) (by decide) rfl (fun ls hl => ?_)
  refine lv_goto (tgt := 3) hx hb d_NJ_hasPort_61 (by decide) ?_
  exact hK3 x1 x2 x3 y1 _ _ _ _ hw (lv_sub hl [1, 2, 3, 4, 0] rfl) hR
set_option maxHeartbeats 4000000 in
set_option maxRecDepth 100000 in
theorem mn_NJ_hasPort_3 {D : va_G} {cs : CS} {Z : Nat → Nat} {h0 : HS} {p : Program} {l : Launch} {e : Env} {s : State} {m : MethodId} {args : Array Value} {below : List Frame} {meth : Method} {c : Code} {v0 : Nat} (C : mC D cs Z h0 y_NJ_hasPort c_NJ_hasPort 6 (some .boolean) p s m args meth c) (post : Int32 → HS → Prop) : ∀ (n : Nat) (x1 : Int32) (x2 : Int32) (x3 : Int32) (x4 : Int32) (h : HS) (H : Heap) (locs : List Loc) (ls : Array Slot), lpF (wb_NJ_hasPort_3 Z post v0) n (x1, x2, x3, x4, h) → lv_has ls 6 [(0, va_rf (some v0)), (1, .int x1), (2, .int x2), (3, .int x3), (4, .int x4)] → mR D cs (fA h0 s.heap.size) h s.heap H locs → W p l e ({ frames := 5, cells := 0, slots := 0, locals := 164 } : Room) s m args below meth c H locs 0 0 (MQ below (va_Qi post (mB D cs h0 s.heap.size) (fA h0 s.heap.size)) args s 0 0 (fA h0 s.heap.size)) (F0 m 3 ls []) := by
  obtain ⟨hx, hb, hr, hml, hown, hW, hlocks, hnm, hK, hZ⟩ := id C
  have hown : s.vm.findClass "NetJoins" = some m.cls := hown
  have hA : ∀ q, s.heap.size ≤ q → fA h0 s.heap.size q := fun _ h => Or.inr h
  intro n
  induction n with
  | zero => intro x1 x2 x3 x4 h H locs ls hw; exact hw.elim
  | succ n ih =>
    intro x1 x2 x3 x4 h H locs ls hw hl hR
    have hw : wb_NJ_hasPort_3 Z post v0 (lpF (wb_NJ_hasPort_3 Z post v0) n) (x1, x2, x3, x4, h) := hw
    unfold wb_NJ_hasPort_3 at hw
    dsimp only at hw
    refine lv_iload hx hb d_NJ_hasPort_3 (lv_at hl 4 rfl) ?_
    refine mx_aload_n (r := some v0) hx hb d_NJ_hasPort_5 rfl (lv_at hl 0 rfl) ?_
    obtain ⟨t1, hw⟩ := hw
    refine mx_get (ci := 0) (C := "NetJoins") (T := F_NJ) (N := 18) hx hb hW hown hK.1 hR (a := v0) rfl t1 rfl i_NJ 6 2 (by decide) rfl kw_126 (fun _ h9 => h9) d_NJ_hasPort_6 ?_
    obtain ⟨a4, ea4, t5, hw⟩ := hw
    refine W.eq (g2 := F0 m 9 ls [va_rf (some a4), .int x4]) (by rw [← ea4] <;> rfl) ?_
    refine mx_calli (va_runV (b := a4) (As := []) (rest := [.int x4]) ⟨hx, hb, hml, hown, hW⟩ (mt_AL_size l D cs Z _ hw) (mx_cwV hW ok_AL_size kw_192 rfl rfl ⟨Nat.le_of_ble_eq_true rfl, Nat.le_of_ble_eq_true rfl⟩) (mx_preV hK hZ hA hR (ci := 9) rfl t5) rfl rfl hl.1 rfl (lv_room (Nat.le_of_ble_eq_true rfl)) d_NJ_hasPort_9 ⟨Nat.le_of_ble_eq_true rfl, Nat.le_of_ble_eq_true rfl⟩) hR hA (fun r2 h3 H locs hw hR => ?_)
    try dsimp only at hw
    refine lv_icmp_ge (tgt := 64) hx hb d_NJ_hasPort_12 (by decide) (fun c6 => ?_) (fun c6 => ?_)
    · have hw := hw.1 c6
      refine lv_iconst (v := 0) hx hb d_NJ_hasPort_64 (by decide) ?_
      exact mx_zret hx hb hr hlocks hR (Or.inl rfl) hw d_NJ_hasPort_65
    · have hw := hw.2 c6
      refine mx_aload_n (r := some v0) hx hb d_NJ_hasPort_15 rfl (lv_at hl 0 rfl) ?_
      obtain ⟨t7, hw⟩ := hw
      refine mx_get (ci := 0) (C := "NetJoins") (T := F_NJ) (N := 18) hx hb hW hown hK.1 hR (a := v0) rfl t7 rfl i_NJ 6 2 (by decide) rfl kw_126 (fun _ h9 => h9) d_NJ_hasPort_16 ?_
      refine lv_iload hx hb d_NJ_hasPort_19 (lv_at hl 4 rfl) ?_
      obtain ⟨a10, ea10, t11, hw⟩ := hw
      refine W.eq (g2 := F0 m 21 ls [.int x4, va_rf (some a10)]) (by rw [← ea10] <;> rfl) ?_
      refine mx_callr (va_runV (b := a10) (As := [.int x4]) (rest := []) ⟨hx, hb, hml, hown, hW⟩ (mt_AL_get l D cs Z _ hw) (mx_cwV hW ok_AL_get kw_196 rfl rfl ⟨Nat.le_of_ble_eq_true rfl, Nat.le_of_ble_eq_true rfl⟩) (mx_preV hK hZ hA hR (ci := 9) rfl t11) rfl rfl hl.1 rfl (lv_room (Nat.le_of_ble_eq_true rfl)) d_NJ_hasPort_21 ⟨Nat.le_of_ble_eq_true rfl, Nat.le_of_ble_eq_true rfl⟩) hR hA (fun r8 h9 H locs hw hR => ?_)
      try dsimp only at hw
      obtain ⟨t12, hw⟩ := hw
      refine mx_cast (ci := 4) (C := "NetJoins$Port") (T := F_Port) (N := 5) hx hb hW hown hK.1 hR rfl kw_389 t12 d_NJ_hasPort_24 ?_
      refine mx_astore (i := 5) (r := r8) (lv' := [(5, va_rf r8), (0, va_rf (some v0)), (1, .int x1), (2, .int x2), (3, .int x3), (4, .int x4)]) hx hb d_NJ_hasPort_27 hl (by decide) rfl (fun ls hl => ?_)
      refine mx_aload (r := r8) hx hb d_NJ_hasPort_29 (lv_at hl 0 rfl) ?_
      obtain ⟨a13, ea13, t14, hw⟩ := hw
      refine mx_get (ci := 4) (C := "NetJoins$Port") (T := F_Port) (N := 5) hx hb hW hown hK.1 hR (a := a13) ea13 t14 rfl i_Port 0 0 (by decide) rfl kw_1024 (fun _ h9 => h9) d_NJ_hasPort_31 ?_
      refine lv_iload_n hx hb d_NJ_hasPort_34 rfl (lv_at hl 2 rfl) ?_
      refine lv_icmp_ne (tgt := 58) hx hb d_NJ_hasPort_35 (by decide) (fun c15 => ?_) (fun c15 => ?_)
      · have hw := hw.1 c15
        exact mn_NJ_hasPort_58 C post (lpF (wb_NJ_hasPort_3 Z post v0) n) ih x1 x2 x3 x4 _ _ _ _ hw (lv_sub hl [1, 2, 3, 4, 5] rfl) hR
      · have hw := hw.2 c15
        refine mx_aload (r := r8) hx hb d_NJ_hasPort_38 (lv_at hl 0 rfl) ?_
        obtain ⟨a16, ea16, t17, hw⟩ := hw
        refine mx_get (ci := 4) (C := "NetJoins$Port") (T := F_Port) (N := 5) hx hb hW hown hK.1 hR (a := a16) ea16 t17 rfl i_Port 1 0 (by decide) rfl kw_1026 (fun _ h9 => h9) d_NJ_hasPort_40 ?_
        refine lv_iload_n hx hb d_NJ_hasPort_43 rfl (lv_at hl 3 rfl) ?_
        refine lv_icmp_ne (tgt := 58) hx hb d_NJ_hasPort_44 (by decide) (fun c18 => ?_) (fun c18 => ?_)
        · have hw := hw.1 c18
          exact mn_NJ_hasPort_58 C post (lpF (wb_NJ_hasPort_3 Z post v0) n) ih x1 x2 x3 x4 _ _ _ _ hw (lv_sub hl [1, 2, 3, 4, 5] rfl) hR
        · have hw := hw.2 c18
          refine mx_aload (r := r8) hx hb d_NJ_hasPort_47 (lv_at hl 0 rfl) ?_
          obtain ⟨a19, ea19, t20, hw⟩ := hw
          refine mx_get (ci := 4) (C := "NetJoins$Port") (T := F_Port) (N := 5) hx hb hW hown hK.1 hR (a := a19) ea19 t20 rfl i_Port 2 0 (by decide) rfl kw_1028 (fun _ h9 => h9) d_NJ_hasPort_49 ?_
          refine lv_iload_n hx hb d_NJ_hasPort_52 rfl (lv_at hl 4 rfl) ?_
          refine lv_icmp_ne (tgt := 58) hx hb d_NJ_hasPort_53 (by decide) (fun c21 => ?_) (fun c21 => ?_)
          · have hw := hw.1 c21
            exact mn_NJ_hasPort_58 C post (lpF (wb_NJ_hasPort_3 Z post v0) n) ih x1 x2 x3 x4 _ _ _ _ hw (lv_sub hl [1, 2, 3, 4, 5] rfl) hR
          · have hw := hw.2 c21
            refine lv_iconst (v := 1) hx hb d_NJ_hasPort_56 (by decide) ?_
            exact mx_zret hx hb hr hlocks hR (Or.inr rfl) hw d_NJ_hasPort_57
set_option maxHeartbeats 4000000 in
set_option maxRecDepth 100000 in
theorem mt_NJ_hasPort (l : Launch) (D : va_G) (cs : CS) (Z : Nat → Nat) (sz : Nat) {post : Int32 → HS → Prop} {h : HS} {v0 : Nat} {x1 : Int32} {x2 : Int32} {x3 : Int32} (hw : wp_NJ_hasPort Z post h v0 x1 x2 x3) : Met l y_NJ_hasPort (Cond.code y_NJ_hasPort c_NJ_hasPort 6 (some .boolean) :: WA) ({ frames := 5, cells := 0, slots := 0, locals := 164 } : Room) (mPc D cs Z h sz [va_rf (some v0), .int x1, .int x2, .int x3]) (va_Qi post (mB D cs h sz) (fA h sz)) 0 0 (fA h sz) := by
  refine mx_met (fun sz => va_Qi post (mB D cs h sz) (fA h sz)) (by decide) (by simp [lg_sl, mx_rf_cat, cat_i, cat_l]) ?_
  intro p e s m args below meth c C hR ls hl
  have hl : lv_has ls 6 [(0, va_rf (some v0)), (1, .int x1), (2, .int x2), (3, .int x3)] := hl
  obtain ⟨hx, hb, hr, hml, hown, hW, hlocks, hnm, hK, hZ⟩ := id C
  have hown : s.vm.findClass "NetJoins" = some m.cls := hown
  have hA : ∀ q, s.heap.size ≤ q → fA h s.heap.size q := fun _ h => Or.inr h
  unfold wp_NJ_hasPort at hw
  refine lv_iconst (v := 0) hx hb d_NJ_hasPort_0 (by decide) ?_
  refine lv_istore (i := 4) (lv' := [(4, .int (0 : Int32)), (0, va_rf (some v0)), (1, .int x1), (2, .int x2), (3, .int x3)]) hx hb d_NJ_hasPort_1 hl (by decide) rfl (fun ls hl => ?_)
  obtain ⟨n9, hw⟩ := hw
  exact mn_NJ_hasPort_3 C post n9 x1 x2 x3 (0 : Int32) _ _ _ _ hw (lv_sub hl [1, 2, 3, 4, 0] rfl) hR
set_option maxHeartbeats 4000000 in
set_option maxRecDepth 100000 in
theorem mn_NJ_hasBus_68 {D : va_G} {cs : CS} {Z : Nat → Nat} {h0 : HS} {p : Program} {l : Launch} {e : Env} {s : State} {m : MethodId} {args : Array Value} {below : List Frame} {meth : Method} {c : Code} {v0 : Nat} (C : mC D cs Z h0 y_NJ_hasBus c_NJ_hasBus 7 (some .boolean) p s m args meth c) (post : Int32 → HS → Prop) (K3 : Int32 × Int32 × Int32 × Int32 × Int32 × HS → Prop) (hK3 : ∀ (x1 : Int32) (x2 : Int32) (x3 : Int32) (x4 : Int32) (x5 : Int32) (h : HS) (H : Heap) (locs : List Loc) (ls : Array Slot), K3 (x1, x2, x3, x4, x5, h) → lv_has ls 7 [(0, va_rf (some v0)), (1, .int x1), (2, .int x2), (3, .int x3), (4, .int x4), (5, .int x5)] → mR D cs (fA h0 s.heap.size) h s.heap H locs → W p l e ({ frames := 5, cells := 0, slots := 0, locals := 164 } : Room) s m args below meth c H locs 0 0 (MQ below (va_Qi post (mB D cs h0 s.heap.size) (fA h0 s.heap.size)) args s 0 0 (fA h0 s.heap.size)) (F0 m 3 ls [])) : ∀ (x1 : Int32) (x2 : Int32) (x3 : Int32) (x4 : Int32) (x5 : Int32) (h : HS) (H : Heap) (locs : List Loc) (ls : Array Slot), wj_NJ_hasBus_68 Z post K3 v0 x1 x2 x3 x4 x5 h → lv_has ls 7 [(0, va_rf (some v0)), (1, .int x1), (2, .int x2), (3, .int x3), (4, .int x4), (5, .int x5)] → mR D cs (fA h0 s.heap.size) h s.heap H locs → W p l e ({ frames := 5, cells := 0, slots := 0, locals := 164 } : Room) s m args below meth c H locs 0 0 (MQ below (va_Qi post (mB D cs h0 s.heap.size) (fA h0 s.heap.size)) args s 0 0 (fA h0 s.heap.size)) (F0 m 68 ls []) := by
  obtain ⟨hx, hb, hr, hml, hown, hW, hlocks, hnm, hK, hZ⟩ := id C
  have hown : s.vm.findClass "NetJoins" = some m.cls := hown
  have hA : ∀ q, s.heap.size ≤ q → fA h0 s.heap.size q := fun _ h => Or.inr h
  intro x1 x2 x3 x4 x5 h H locs ls hw hl hR
  unfold wj_NJ_hasBus_68 at hw
  obtain ⟨y1, ey1⟩ : ∃ y : Int32, y = x5 + (1 : Int32) := ⟨_, rfl⟩
  have hw := hw y1 ey1
  refine lv_iinc (v := y1) (lv' := [(5, .int y1), (0, va_rf (some v0)), (1, .int x1), (2, .int x2), (3, .int x3), (4, .int x4)]) hx hb d_NJ_hasBus_68 hl (k := 5) rfl (by rw [ey1]; rfl) (by decide) rfl (fun ls hl => ?_)
  refine lv_goto (tgt := 3) hx hb d_NJ_hasBus_71 (by decide) ?_
  exact hK3 x1 x2 x3 x4 y1 _ _ _ _ hw (lv_sub hl [1, 2, 3, 4, 5, 0] rfl) hR
set_option maxHeartbeats 4000000 in
set_option maxRecDepth 100000 in
theorem mn_NJ_hasBus_3 {D : va_G} {cs : CS} {Z : Nat → Nat} {h0 : HS} {p : Program} {l : Launch} {e : Env} {s : State} {m : MethodId} {args : Array Value} {below : List Frame} {meth : Method} {c : Code} {v0 : Nat} (C : mC D cs Z h0 y_NJ_hasBus c_NJ_hasBus 7 (some .boolean) p s m args meth c) (post : Int32 → HS → Prop) : ∀ (n : Nat) (x1 : Int32) (x2 : Int32) (x3 : Int32) (x4 : Int32) (x5 : Int32) (h : HS) (H : Heap) (locs : List Loc) (ls : Array Slot), lpF (wb_NJ_hasBus_3 Z post v0) n (x1, x2, x3, x4, x5, h) → lv_has ls 7 [(0, va_rf (some v0)), (1, .int x1), (2, .int x2), (3, .int x3), (4, .int x4), (5, .int x5)] → mR D cs (fA h0 s.heap.size) h s.heap H locs → W p l e ({ frames := 5, cells := 0, slots := 0, locals := 164 } : Room) s m args below meth c H locs 0 0 (MQ below (va_Qi post (mB D cs h0 s.heap.size) (fA h0 s.heap.size)) args s 0 0 (fA h0 s.heap.size)) (F0 m 3 ls []) := by
  obtain ⟨hx, hb, hr, hml, hown, hW, hlocks, hnm, hK, hZ⟩ := id C
  have hown : s.vm.findClass "NetJoins" = some m.cls := hown
  have hA : ∀ q, s.heap.size ≤ q → fA h0 s.heap.size q := fun _ h => Or.inr h
  intro n
  induction n with
  | zero => intro x1 x2 x3 x4 x5 h H locs ls hw; exact hw.elim
  | succ n ih =>
    intro x1 x2 x3 x4 x5 h H locs ls hw hl hR
    have hw : wb_NJ_hasBus_3 Z post v0 (lpF (wb_NJ_hasBus_3 Z post v0) n) (x1, x2, x3, x4, x5, h) := hw
    unfold wb_NJ_hasBus_3 at hw
    dsimp only at hw
    refine lv_iload hx hb d_NJ_hasBus_3 (lv_at hl 5 rfl) ?_
    refine mx_aload_n (r := some v0) hx hb d_NJ_hasBus_5 rfl (lv_at hl 0 rfl) ?_
    obtain ⟨t1, hw⟩ := hw
    refine mx_get (ci := 0) (C := "NetJoins") (T := F_NJ) (N := 18) hx hb hW hown hK.1 hR (a := v0) rfl t1 rfl i_NJ 7 2 (by decide) rfl kw_127 (fun _ h9 => h9) d_NJ_hasBus_6 ?_
    obtain ⟨a4, ea4, t5, hw⟩ := hw
    refine W.eq (g2 := F0 m 9 ls [va_rf (some a4), .int x5]) (by rw [← ea4] <;> rfl) ?_
    refine mx_calli (va_runV (b := a4) (As := []) (rest := [.int x5]) ⟨hx, hb, hml, hown, hW⟩ (mt_AL_size l D cs Z _ hw) (mx_cwV hW ok_AL_size kw_192 rfl rfl ⟨Nat.le_of_ble_eq_true rfl, Nat.le_of_ble_eq_true rfl⟩) (mx_preV hK hZ hA hR (ci := 9) rfl t5) rfl rfl hl.1 rfl (lv_room (Nat.le_of_ble_eq_true rfl)) d_NJ_hasBus_9 ⟨Nat.le_of_ble_eq_true rfl, Nat.le_of_ble_eq_true rfl⟩) hR hA (fun r2 h3 H locs hw hR => ?_)
    try dsimp only at hw
    refine lv_icmp_ge (tgt := 74) hx hb d_NJ_hasBus_12 (by decide) (fun c6 => ?_) (fun c6 => ?_)
    · have hw := hw.1 c6
      refine lv_iconst (v := 0) hx hb d_NJ_hasBus_74 (by decide) ?_
      exact mx_zret hx hb hr hlocks hR (Or.inl rfl) hw d_NJ_hasBus_75
    · have hw := hw.2 c6
      refine mx_aload_n (r := some v0) hx hb d_NJ_hasBus_15 rfl (lv_at hl 0 rfl) ?_
      obtain ⟨t7, hw⟩ := hw
      refine mx_get (ci := 0) (C := "NetJoins") (T := F_NJ) (N := 18) hx hb hW hown hK.1 hR (a := v0) rfl t7 rfl i_NJ 7 2 (by decide) rfl kw_127 (fun _ h9 => h9) d_NJ_hasBus_16 ?_
      refine lv_iload hx hb d_NJ_hasBus_19 (lv_at hl 5 rfl) ?_
      obtain ⟨a10, ea10, t11, hw⟩ := hw
      refine W.eq (g2 := F0 m 21 ls [.int x5, va_rf (some a10)]) (by rw [← ea10] <;> rfl) ?_
      refine mx_callr (va_runV (b := a10) (As := [.int x5]) (rest := []) ⟨hx, hb, hml, hown, hW⟩ (mt_AL_get l D cs Z _ hw) (mx_cwV hW ok_AL_get kw_196 rfl rfl ⟨Nat.le_of_ble_eq_true rfl, Nat.le_of_ble_eq_true rfl⟩) (mx_preV hK hZ hA hR (ci := 9) rfl t11) rfl rfl hl.1 rfl (lv_room (Nat.le_of_ble_eq_true rfl)) d_NJ_hasBus_21 ⟨Nat.le_of_ble_eq_true rfl, Nat.le_of_ble_eq_true rfl⟩) hR hA (fun r8 h9 H locs hw hR => ?_)
      try dsimp only at hw
      obtain ⟨t12, hw⟩ := hw
      refine mx_cast (ci := 1) (C := "NetJoins$Bus") (T := F_Bus) (N := 4) hx hb hW hown hK.1 hR rfl kw_364 t12 d_NJ_hasBus_24 ?_
      refine mx_astore (i := 6) (r := r8) (lv' := [(6, va_rf r8), (0, va_rf (some v0)), (1, .int x1), (2, .int x2), (3, .int x3), (4, .int x4), (5, .int x5)]) hx hb d_NJ_hasBus_27 hl (by decide) rfl (fun ls hl => ?_)
      refine mx_aload (r := r8) hx hb d_NJ_hasBus_29 (lv_at hl 0 rfl) ?_
      obtain ⟨a13, ea13, t14, hw⟩ := hw
      refine mx_get (ci := 1) (C := "NetJoins$Bus") (T := F_Bus) (N := 4) hx hb hW hown hK.1 hR (a := a13) ea13 t14 rfl i_Bus 0 0 (by decide) rfl kw_1061 (fun _ h9 => h9) d_NJ_hasBus_31 ?_
      refine lv_iload_n hx hb d_NJ_hasBus_34 rfl (lv_at hl 2 rfl) ?_
      refine lv_icmp_ne (tgt := 68) hx hb d_NJ_hasBus_35 (by decide) (fun c15 => ?_) (fun c15 => ?_)
      · have hw := hw.1 c15
        exact mn_NJ_hasBus_68 C post (lpF (wb_NJ_hasBus_3 Z post v0) n) ih x1 x2 x3 x4 x5 _ _ _ _ hw (lv_sub hl [1, 2, 3, 4, 5, 6] rfl) hR
      · have hw := hw.2 c15
        refine mx_aload (r := r8) hx hb d_NJ_hasBus_38 (lv_at hl 0 rfl) ?_
        obtain ⟨a16, ea16, t17, hw⟩ := hw
        refine mx_get (ci := 1) (C := "NetJoins$Bus") (T := F_Bus) (N := 4) hx hb hW hown hK.1 hR (a := a16) ea16 t17 rfl i_Bus 1 0 (by decide) rfl kw_1063 (fun _ h9 => h9) d_NJ_hasBus_40 ?_
        refine lv_iload_n hx hb d_NJ_hasBus_43 rfl (lv_at hl 3 rfl) ?_
        refine lv_icmp_ne (tgt := 68) hx hb d_NJ_hasBus_44 (by decide) (fun c18 => ?_) (fun c18 => ?_)
        · have hw := hw.1 c18
          exact mn_NJ_hasBus_68 C post (lpF (wb_NJ_hasBus_3 Z post v0) n) ih x1 x2 x3 x4 x5 _ _ _ _ hw (lv_sub hl [1, 2, 3, 4, 5, 6] rfl) hR
        · have hw := hw.2 c18
          refine mx_aload (r := r8) hx hb d_NJ_hasBus_47 (lv_at hl 0 rfl) ?_
          obtain ⟨a19, ea19, t20, hw⟩ := hw
          refine mx_get (ci := 1) (C := "NetJoins$Bus") (T := F_Bus) (N := 4) hx hb hW hown hK.1 hR (a := a19) ea19 t20 rfl i_Bus 2 0 (by decide) rfl kw_1065 (fun _ h9 => h9) d_NJ_hasBus_49 ?_
          refine lv_iload_n hx hb d_NJ_hasBus_52 rfl (lv_at hl 4 rfl) ?_
          refine lv_icmp_ne (tgt := 68) hx hb d_NJ_hasBus_53 (by decide) (fun c21 => ?_) (fun c21 => ?_)
          · have hw := hw.1 c21
            exact mn_NJ_hasBus_68 C post (lpF (wb_NJ_hasBus_3 Z post v0) n) ih x1 x2 x3 x4 x5 _ _ _ _ hw (lv_sub hl [1, 2, 3, 4, 5, 6] rfl) hR
          · have hw := hw.2 c21
            refine mx_aload (r := r8) hx hb d_NJ_hasBus_56 (lv_at hl 0 rfl) ?_
            obtain ⟨a22, ea22, t23, hw⟩ := hw
            refine mx_get (ci := 1) (C := "NetJoins$Bus") (T := F_Bus) (N := 4) hx hb hW hown hK.1 hR (a := a22) ea22 t23 rfl i_Bus 3 0 (by decide) rfl kw_1067 (fun _ h9 => h9) d_NJ_hasBus_58 ?_
            refine lv_iload hx hb d_NJ_hasBus_61 (lv_at hl 5 rfl) ?_
            refine lv_icmp_ne (tgt := 68) hx hb d_NJ_hasBus_63 (by decide) (fun c24 => ?_) (fun c24 => ?_)
            · have hw := hw.1 c24
              exact mn_NJ_hasBus_68 C post (lpF (wb_NJ_hasBus_3 Z post v0) n) ih x1 x2 x3 x4 x5 _ _ _ _ hw (lv_sub hl [1, 2, 3, 4, 5, 6] rfl) hR
            · have hw := hw.2 c24
              refine lv_iconst (v := 1) hx hb d_NJ_hasBus_66 (by decide) ?_
              exact mx_zret hx hb hr hlocks hR (Or.inr rfl) hw d_NJ_hasBus_67
set_option maxHeartbeats 4000000 in
set_option maxRecDepth 100000 in
theorem mt_NJ_hasBus (l : Launch) (D : va_G) (cs : CS) (Z : Nat → Nat) (sz : Nat) {post : Int32 → HS → Prop} {h : HS} {v0 : Nat} {x1 : Int32} {x2 : Int32} {x3 : Int32} {x4 : Int32} (hw : wp_NJ_hasBus Z post h v0 x1 x2 x3 x4) : Met l y_NJ_hasBus (Cond.code y_NJ_hasBus c_NJ_hasBus 7 (some .boolean) :: WA) ({ frames := 5, cells := 0, slots := 0, locals := 164 } : Room) (mPc D cs Z h sz [va_rf (some v0), .int x1, .int x2, .int x3, .int x4]) (va_Qi post (mB D cs h sz) (fA h sz)) 0 0 (fA h sz) := by
  refine mx_met (fun sz => va_Qi post (mB D cs h sz) (fA h sz)) (by decide) (by simp [lg_sl, mx_rf_cat, cat_i, cat_l]) ?_
  intro p e s m args below meth c C hR ls hl
  have hl : lv_has ls 7 [(0, va_rf (some v0)), (1, .int x1), (2, .int x2), (3, .int x3), (4, .int x4)] := hl
  obtain ⟨hx, hb, hr, hml, hown, hW, hlocks, hnm, hK, hZ⟩ := id C
  have hown : s.vm.findClass "NetJoins" = some m.cls := hown
  have hA : ∀ q, s.heap.size ≤ q → fA h s.heap.size q := fun _ h => Or.inr h
  unfold wp_NJ_hasBus at hw
  refine lv_iconst (v := 0) hx hb d_NJ_hasBus_0 (by decide) ?_
  refine lv_istore (i := 5) (lv' := [(5, .int (0 : Int32)), (0, va_rf (some v0)), (1, .int x1), (2, .int x2), (3, .int x3), (4, .int x4)]) hx hb d_NJ_hasBus_1 hl (by decide) rfl (fun ls hl => ?_)
  obtain ⟨n9, hw⟩ := hw
  exact mn_NJ_hasBus_3 C post n9 x1 x2 x3 x4 (0 : Int32) _ _ _ _ hw (lv_sub hl [1, 2, 3, 4, 5, 0] rfl) hR
