set_option maxHeartbeats 4000000 in
set_option maxRecDepth 100000 in
theorem mn_Mod_number_154 {D : va_G} {cs : CS} {Z : Nat → Nat} {h0 : HS} {p : Program} {l : Launch} {e : Env} {s : State} {m : MethodId} {args : Array Value} {below : List Frame} {meth : Method} {c : Code} {v0 : Nat} (C : mC D cs Z h0 y_Mod_number c_Mod_number 4 none p s m args meth c) (post : HS → Prop) (K51 : Int32 × HS → Prop) (K66 : Int32 × Int32 × HS → Prop) (hK51 : ∀ (x1 : Int32) (h : HS) (H : Heap) (locs : List Loc) (ls : Array Slot), K51 (x1, h) → lv_has ls 4 [(0, va_rf (some v0)), (1, .int x1)] → mR D cs (fA h0 s.heap.size) h s.heap H locs → W p l e ({ frames := 3, cells := 0, slots := 0, locals := 122 } : Room) s m args below meth c H locs 0 0 (MQ below (va_Qv post (mB D cs h0 s.heap.size) (fA h0 s.heap.size)) args s 0 0 (fA h0 s.heap.size)) (F0 m 51 ls [])) (hK66 : ∀ (x1 : Int32) (x2 : Int32) (h : HS) (H : Heap) (locs : List Loc) (ls : Array Slot), K66 (x1, x2, h) → lv_has ls 4 [(0, va_rf (some v0)), (1, .int x1), (2, .int x2)] → mR D cs (fA h0 s.heap.size) h s.heap H locs → W p l e ({ frames := 3, cells := 0, slots := 0, locals := 122 } : Room) s m args below meth c H locs 0 0 (MQ below (va_Qv post (mB D cs h0 s.heap.size) (fA h0 s.heap.size)) args s 0 0 (fA h0 s.heap.size)) (F0 m 66 ls [])) : ∀ (x1 : Int32) (x2 : Int32) (h : HS) (H : Heap) (locs : List Loc) (ls : Array Slot), wj_Mod_number_154 Z post K51 K66 v0 x1 x2 h → lv_has ls 4 [(0, va_rf (some v0)), (1, .int x1), (2, .int x2)] → mR D cs (fA h0 s.heap.size) h s.heap H locs → W p l e ({ frames := 3, cells := 0, slots := 0, locals := 122 } : Room) s m args below meth c H locs 0 0 (MQ below (va_Qv post (mB D cs h0 s.heap.size) (fA h0 s.heap.size)) args s 0 0 (fA h0 s.heap.size)) (F0 m 154 ls []) := by
  obtain ⟨hx, hb, hr, hml, hown, hW, hlocks, hnm, hK, hZ⟩ := id C
  have hown : s.vm.findClass "NetJoinsModel" = some m.cls := hown
  have hA : ∀ q, s.heap.size ≤ q → fA h0 s.heap.size q := fun _ h => Or.inr h
  intro x1 x2 h H locs ls hw hl hR
  unfold wj_Mod_number_154 at hw
  obtain ⟨y1, ey1⟩ : ∃ y : Int32, y = x2 + (1 : Int32) := ⟨_, rfl⟩
  have hw := hw y1 ey1
  refine lv_iinc (v := y1) (lv' := [(2, .int y1), (0, va_rf (some v0)), (1, .int x1)]) hx hb d_Mod_number_154 hl (k := 2) rfl (by rw [ey1]; rfl) (by decide) rfl (fun ls hl => ?_)
  refine lv_goto (tgt := 66) hx hb d_Mod_number_157 (by decide) ?_
  exact hK66 x1 y1 _ _ _ _ hw (lv_sub hl [1, 2, 0] rfl) hR
set_option maxHeartbeats 4000000 in
set_option maxRecDepth 100000 in
theorem mn_Mod_number_137 {D : va_G} {cs : CS} {Z : Nat → Nat} {h0 : HS} {p : Program} {l : Launch} {e : Env} {s : State} {m : MethodId} {args : Array Value} {below : List Frame} {meth : Method} {c : Code} {v0 : Nat} (C : mC D cs Z h0 y_Mod_number c_Mod_number 4 none p s m args meth c) (post : HS → Prop) (K51 : Int32 × HS → Prop) (K66 : Int32 × Int32 × HS → Prop) (hK51 : ∀ (x1 : Int32) (h : HS) (H : Heap) (locs : List Loc) (ls : Array Slot), K51 (x1, h) → lv_has ls 4 [(0, va_rf (some v0)), (1, .int x1)] → mR D cs (fA h0 s.heap.size) h s.heap H locs → W p l e ({ frames := 3, cells := 0, slots := 0, locals := 122 } : Room) s m args below meth c H locs 0 0 (MQ below (va_Qv post (mB D cs h0 s.heap.size) (fA h0 s.heap.size)) args s 0 0 (fA h0 s.heap.size)) (F0 m 51 ls [])) (hK66 : ∀ (x1 : Int32) (x2 : Int32) (h : HS) (H : Heap) (locs : List Loc) (ls : Array Slot), K66 (x1, x2, h) → lv_has ls 4 [(0, va_rf (some v0)), (1, .int x1), (2, .int x2)] → mR D cs (fA h0 s.heap.size) h s.heap H locs → W p l e ({ frames := 3, cells := 0, slots := 0, locals := 122 } : Room) s m args below meth c H locs 0 0 (MQ below (va_Qv post (mB D cs h0 s.heap.size) (fA h0 s.heap.size)) args s 0 0 (fA h0 s.heap.size)) (F0 m 66 ls [])) : ∀ (x1 : Int32) (x2 : Int32) (x3 : Int32) (h : HS) (H : Heap) (locs : List Loc) (ls : Array Slot), wj_Mod_number_137 Z post K51 K66 v0 x1 x2 x3 h → lv_has ls 4 [(0, va_rf (some v0)), (1, .int x1), (2, .int x2), (3, .int x3)] → mR D cs (fA h0 s.heap.size) h s.heap H locs → W p l e ({ frames := 3, cells := 0, slots := 0, locals := 122 } : Room) s m args below meth c H locs 0 0 (MQ below (va_Qv post (mB D cs h0 s.heap.size) (fA h0 s.heap.size)) args s 0 0 (fA h0 s.heap.size)) (F0 m 137 ls []) := by
  obtain ⟨hx, hb, hr, hml, hown, hW, hlocks, hnm, hK, hZ⟩ := id C
  have hown : s.vm.findClass "NetJoinsModel" = some m.cls := hown
  have hA : ∀ q, s.heap.size ≤ q → fA h0 s.heap.size q := fun _ h => Or.inr h
  intro x1 x2 x3 h H locs ls hw hl hR
  unfold wj_Mod_number_137 at hw
  refine mx_aload_n (r := some v0) hx hb d_Mod_number_137 rfl (lv_at hl 0 rfl) ?_
  obtain ⟨t1, hw⟩ := hw
  refine mx_get (ci := 8) (C := "NetJoinsModel") (T := F_Mod) (N := 33) hx hb hW hown hK.1 hR (a := v0) rfl t1 rfl i_Mod 27 2 (by decide) rfl kw_1162 (fun _ h9 => h9) d_Mod_number_138 ?_
  refine lv_bipush (v := 16) hx hb d_Mod_number_141 (by decide) ?_
  refine lv_iload_n hx hb d_Mod_number_143 rfl (lv_at hl 1 rfl) ?_
  refine lv_imul hx hb d_Mod_number_144 ?_
  refine lv_iload_n hx hb d_Mod_number_145 rfl (lv_at hl 2 rfl) ?_
  refine lv_iadd hx hb d_Mod_number_146 ?_
  refine mx_aload_n (r := some v0) hx hb d_Mod_number_147 rfl (lv_at hl 0 rfl) ?_
  obtain ⟨t2, hw⟩ := hw
  refine mx_get (ci := 8) (C := "NetJoinsModel") (T := F_Mod) (N := 33) hx hb hW hown hK.1 hR (a := v0) rfl t2 rfl i_Mod 26 2 (by decide) rfl kw_1161 (fun _ h9 => h9) d_Mod_number_148 ?_
  refine lv_iload_n hx hb d_Mod_number_151 rfl (lv_at hl 3 rfl) ?_
  obtain ⟨a3, ea3, t4, t4i, hw⟩ := hw
  refine mx_iald hx hb hK.1 hR (a := a3) ea3 t4 t4i d_Mod_number_152 ?_
  obtain ⟨a5, ea5, t6, t6i, hw⟩ := hw
  refine mx_iast hx hb hK.1 hR (a := a5) ea5 t6 t6i d_Mod_number_153 (fun H locs hR => ?_)
  obtain ⟨h7, eh7⟩ : ∃ z, z = sA h a5 (((16 : Int32) * x1) + x2).toNatClampNeg (gA h a3 x3.toNatClampNeg) := ⟨_, rfl⟩
  rw [← eh7] at hR
  have hw := hw h7 eh7
  exact mn_Mod_number_154 C post K51 K66 hK51 hK66 x1 x2 _ _ _ _ hw (lv_sub hl [0, 1, 2] rfl) hR
set_option maxHeartbeats 4000000 in
set_option maxRecDepth 100000 in
theorem mn_Mod_number_66 {D : va_G} {cs : CS} {Z : Nat → Nat} {h0 : HS} {p : Program} {l : Launch} {e : Env} {s : State} {m : MethodId} {args : Array Value} {below : List Frame} {meth : Method} {c : Code} {v0 : Nat} (C : mC D cs Z h0 y_Mod_number c_Mod_number 4 none p s m args meth c) (post : HS → Prop) (K51 : Int32 × HS → Prop) (hK51 : ∀ (x1 : Int32) (h : HS) (H : Heap) (locs : List Loc) (ls : Array Slot), K51 (x1, h) → lv_has ls 4 [(0, va_rf (some v0)), (1, .int x1)] → mR D cs (fA h0 s.heap.size) h s.heap H locs → W p l e ({ frames := 3, cells := 0, slots := 0, locals := 122 } : Room) s m args below meth c H locs 0 0 (MQ below (va_Qv post (mB D cs h0 s.heap.size) (fA h0 s.heap.size)) args s 0 0 (fA h0 s.heap.size)) (F0 m 51 ls [])) : ∀ (n : Nat) (x1 : Int32) (x2 : Int32) (h : HS) (H : Heap) (locs : List Loc) (ls : Array Slot), lpF (wb_Mod_number_66 Z post K51 v0) n (x1, x2, h) → lv_has ls 4 [(0, va_rf (some v0)), (1, .int x1), (2, .int x2)] → mR D cs (fA h0 s.heap.size) h s.heap H locs → W p l e ({ frames := 3, cells := 0, slots := 0, locals := 122 } : Room) s m args below meth c H locs 0 0 (MQ below (va_Qv post (mB D cs h0 s.heap.size) (fA h0 s.heap.size)) args s 0 0 (fA h0 s.heap.size)) (F0 m 66 ls []) := by
  obtain ⟨hx, hb, hr, hml, hown, hW, hlocks, hnm, hK, hZ⟩ := id C
  have hown : s.vm.findClass "NetJoinsModel" = some m.cls := hown
  have hA : ∀ q, s.heap.size ≤ q → fA h0 s.heap.size q := fun _ h => Or.inr h
  intro n
  induction n with
  | zero => intro x1 x2 h H locs ls hw; exact hw.elim
  | succ n ih =>
    intro x1 x2 h H locs ls hw hl hR
    have hw : wb_Mod_number_66 Z post K51 v0 (lpF (wb_Mod_number_66 Z post K51 v0) n) (x1, x2, h) := hw
    unfold wb_Mod_number_66 at hw
    dsimp only at hw
    refine lv_iload_n hx hb d_Mod_number_66 rfl (lv_at hl 2 rfl) ?_
    refine mx_aload_n (r := some v0) hx hb d_Mod_number_67 rfl (lv_at hl 0 rfl) ?_
    obtain ⟨t1, hw⟩ := hw
    refine mx_get (ci := 8) (C := "NetJoinsModel") (T := F_Mod) (N := 33) hx hb hW hown hK.1 hR (a := v0) rfl t1 rfl i_Mod 1 0 (by decide) rfl kw_1136 (fun _ h9 => h9) d_Mod_number_68 ?_
    refine lv_icmp_ge (tgt := 160) hx hb d_Mod_number_71 (by decide) (fun c2 => ?_) (fun c2 => ?_)
    · have hw := hw.1 c2
      obtain ⟨y3, ey3⟩ : ∃ y : Int32, y = x1 + (1 : Int32) := ⟨_, rfl⟩
      have hw := hw y3 ey3
      refine lv_iinc (v := y3) (lv' := [(1, .int y3), (0, va_rf (some v0)), (2, .int x2)]) hx hb d_Mod_number_160 hl (k := 1) rfl (by rw [ey3]; rfl) (by decide) rfl (fun ls hl => ?_)
      refine lv_goto (tgt := 51) hx hb d_Mod_number_163 (by decide) ?_
      exact hK51 y3 _ _ _ _ hw (lv_sub hl [1, 0] rfl) hR
    · have hw := hw.2 c2
      refine mx_aload_n (r := some v0) hx hb d_Mod_number_74 rfl (lv_at hl 0 rfl) ?_
      obtain ⟨t4, hw⟩ := hw
      refine mx_get (ci := 8) (C := "NetJoinsModel") (T := F_Mod) (N := 33) hx hb hW hown hK.1 hR (a := v0) rfl t4 rfl i_Mod 3 2 (by decide) rfl kw_1138 (fun _ h9 => h9) d_Mod_number_75 ?_
      refine lv_iload_n hx hb d_Mod_number_78 rfl (lv_at hl 2 rfl) ?_
      obtain ⟨a5, ea5, t6, t6i, hw⟩ := hw
      refine mx_iald hx hb hK.1 hR (a := a5) ea5 t6 t6i d_Mod_number_79 ?_
      refine mx_aload_n (r := some v0) hx hb d_Mod_number_80 rfl (lv_at hl 0 rfl) ?_
      obtain ⟨t7, hw⟩ := hw
      refine mx_get (ci := 8) (C := "NetJoinsModel") (T := F_Mod) (N := 33) hx hb hW hown hK.1 hR (a := v0) rfl t7 rfl i_Mod 16 2 (by decide) rfl kw_1151 (fun _ h9 => h9) d_Mod_number_81 ?_
      refine lv_iload_n hx hb d_Mod_number_84 rfl (lv_at hl 1 rfl) ?_
      obtain ⟨a8, ea8, t9, t9i, hw⟩ := hw
      refine mx_iald hx hb hK.1 hR (a := a8) ea8 t9 t9i d_Mod_number_85 ?_
      refine lv_icmp_eq (tgt := 92) hx hb d_Mod_number_86 (by decide) (fun c10 => ?_) (fun c10 => ?_)
      · have hw := hw.1 c10
        refine mx_aload_n (r := some v0) hx hb d_Mod_number_92 rfl (lv_at hl 0 rfl) ?_
        refine lv_sipush (v := 2560) hx hb d_Mod_number_93 (by decide) ?_
        refine lv_bipush (v := 16) hx hb d_Mod_number_96 (by decide) ?_
        refine lv_iload_n hx hb d_Mod_number_98 rfl (lv_at hl 1 rfl) ?_
        refine lv_imul hx hb d_Mod_number_99 ?_
        refine lv_iadd hx hb d_Mod_number_100 ?_
        refine lv_iload_n hx hb d_Mod_number_101 rfl (lv_at hl 2 rfl) ?_
        refine lv_iadd hx hb d_Mod_number_102 ?_
        obtain ⟨t13, hw⟩ := hw
        refine mx_calli (va_runV (b := v0) (As := [.int (((2560 : Int32) + ((16 : Int32) * x1)) + x2)]) (rest := []) ⟨hx, hb, hml, hown, hW⟩ (mt_Mod_leader l D cs Z _ hw) (mx_cwV hW ok_Mod_leader kw_1280 rfl rfl ⟨Nat.le_of_ble_eq_true rfl, Nat.le_of_ble_eq_true rfl⟩) (mx_preV hK hZ hA hR (ci := 8) rfl t13) rfl rfl hl.1 rfl (lv_room (Nat.le_of_ble_eq_true rfl)) d_Mod_number_103 ⟨Nat.le_of_ble_eq_true rfl, Nat.le_of_ble_eq_true rfl⟩) hR hA (fun r11 h12 H locs hw hR => ?_)
        try dsimp only at hw
        refine lv_istore_n (i := 3) (lv' := [(3, .int r11), (0, va_rf (some v0)), (1, .int x1), (2, .int x2)]) hx hb d_Mod_number_106 rfl hl (by decide) rfl (fun ls hl => ?_)
        refine mx_aload_n (r := some v0) hx hb d_Mod_number_107 rfl (lv_at hl 1 rfl) ?_
        obtain ⟨t14, hw⟩ := hw
        refine mx_get (ci := 8) (C := "NetJoinsModel") (T := F_Mod) (N := 33) hx hb hW hown hK.1 hR (a := v0) rfl t14 rfl i_Mod 26 2 (by decide) rfl kw_1161 (fun _ h9 => h9) d_Mod_number_108 ?_
        refine lv_iload_n hx hb d_Mod_number_111 rfl (lv_at hl 0 rfl) ?_
        obtain ⟨a15, ea15, t16, t16i, hw⟩ := hw
        refine mx_iald hx hb hK.1 hR (a := a15) ea15 t16 t16i d_Mod_number_112 ?_
        refine lv_iconst (v := (-1)) hx hb d_Mod_number_113 (by decide) ?_
        refine lv_icmp_ne (tgt := 137) hx hb d_Mod_number_114 (by decide) (fun c17 => ?_) (fun c17 => ?_)
        · have hw := hw.1 c17
          exact mn_Mod_number_137 C post K51 (lpF (wb_Mod_number_66 Z post K51 v0) n) hK51 ih x1 x2 r11 _ _ _ _ hw (lv_sub hl [1, 2, 3, 0] rfl) hR
        · have hw := hw.2 c17
          refine mx_aload_n (r := some v0) hx hb d_Mod_number_117 rfl (lv_at hl 1 rfl) ?_
          obtain ⟨t18, hw⟩ := hw
          refine mx_get (ci := 8) (C := "NetJoinsModel") (T := F_Mod) (N := 33) hx hb hW hown hK.1 hR (a := v0) rfl t18 rfl i_Mod 26 2 (by decide) rfl kw_1161 (fun _ h9 => h9) d_Mod_number_118 ?_
          refine lv_iload_n hx hb d_Mod_number_121 rfl (lv_at hl 0 rfl) ?_
          refine mx_aload_n (r := some v0) hx hb d_Mod_number_122 rfl (lv_at hl 1 rfl) ?_
          obtain ⟨t19, hw⟩ := hw
          refine mx_get (ci := 8) (C := "NetJoinsModel") (T := F_Mod) (N := 33) hx hb hW hown hK.1 hR (a := v0) rfl t19 rfl i_Mod 29 0 (by decide) rfl kw_1164 (fun _ h9 => h9) d_Mod_number_123 ?_
          obtain ⟨a20, ea20, t21, t21i, hw⟩ := hw
          refine mx_iast hx hb hK.1 hR (a := a20) ea20 t21 t21i d_Mod_number_126 (fun H locs hR => ?_)
          obtain ⟨h22, eh22⟩ : ∃ z, z = sA h12 a20 r11.toNatClampNeg (gI h12 829 v0) := ⟨_, rfl⟩
          rw [← eh22] at hR
          have hw := hw h22 eh22
          refine mx_aload_n (r := some v0) hx hb d_Mod_number_127 rfl (lv_at hl 1 rfl) ?_
          refine lv_dup hx hb d_Mod_number_128 (mx_rf_cat _) ?_
          obtain ⟨t23, hw⟩ := hw
          refine mx_get (ci := 8) (C := "NetJoinsModel") (T := F_Mod) (N := 33) hx hb hW hown hK.1 hR (a := v0) rfl t23 rfl i_Mod 29 0 (by decide) rfl kw_1164 (fun _ h9 => h9) d_Mod_number_129 ?_
          refine lv_iconst (v := 1) hx hb d_Mod_number_132 (by decide) ?_
          refine lv_iadd hx hb d_Mod_number_133 ?_
          obtain ⟨t24, hw⟩ := hw
          refine mx_put (ci := 8) (C := "NetJoinsModel") (T := F_Mod) (N := 33) (v := .int ((gI h22 829 v0) + (1 : Int32))) (h' := sI h22 829 v0 ((gI h22 829 v0) + (1 : Int32))) hx hb hW hown hK.1 hR (a := v0) rfl t24 rfl i_Mod t_Mod t_Mod_ok n_Mod 29 0 (by decide) rfl kw_1164 (fun _ h9 => h9) rfl rfl rfl d_Mod_number_134 rfl (toE_sI (ci := 8) (k := 29) t24 rfl) (fun H locs hR => ?_)
          obtain ⟨h25, eh25⟩ : ∃ z, z = sI h22 829 v0 ((gI h22 829 v0) + (1 : Int32)) := ⟨_, rfl⟩
          rw [← eh25] at hR
          have hw := hw h25 eh25
          exact mn_Mod_number_137 C post K51 (lpF (wb_Mod_number_66 Z post K51 v0) n) hK51 ih x1 x2 r11 _ _ _ _ hw (lv_sub hl [1, 2, 3, 0] rfl) hR
      · have hw := hw.2 c10
        refine lv_goto (tgt := 154) hx hb d_Mod_number_89 (by decide) ?_
        exact mn_Mod_number_154 C post K51 (lpF (wb_Mod_number_66 Z post K51 v0) n) hK51 ih x1 x2 _ _ _ _ hw (lv_sub hl [0, 1, 2] rfl) hR
set_option maxHeartbeats 4000000 in
set_option maxRecDepth 100000 in
theorem mn_Mod_number_51 {D : va_G} {cs : CS} {Z : Nat → Nat} {h0 : HS} {p : Program} {l : Launch} {e : Env} {s : State} {m : MethodId} {args : Array Value} {below : List Frame} {meth : Method} {c : Code} {v0 : Nat} (C : mC D cs Z h0 y_Mod_number c_Mod_number 4 none p s m args meth c) (post : HS → Prop) : ∀ (n : Nat) (x1 : Int32) (h : HS) (H : Heap) (locs : List Loc) (ls : Array Slot), lpF (wb_Mod_number_51 Z post v0) n (x1, h) → lv_has ls 4 [(0, va_rf (some v0)), (1, .int x1)] → mR D cs (fA h0 s.heap.size) h s.heap H locs → W p l e ({ frames := 3, cells := 0, slots := 0, locals := 122 } : Room) s m args below meth c H locs 0 0 (MQ below (va_Qv post (mB D cs h0 s.heap.size) (fA h0 s.heap.size)) args s 0 0 (fA h0 s.heap.size)) (F0 m 51 ls []) := by
  obtain ⟨hx, hb, hr, hml, hown, hW, hlocks, hnm, hK, hZ⟩ := id C
  have hown : s.vm.findClass "NetJoinsModel" = some m.cls := hown
  have hA : ∀ q, s.heap.size ≤ q → fA h0 s.heap.size q := fun _ h => Or.inr h
  intro n
  induction n with
  | zero => intro x1 h H locs ls hw; exact hw.elim
  | succ n ih =>
    intro x1 h H locs ls hw hl hR
    have hw : wb_Mod_number_51 Z post v0 (lpF (wb_Mod_number_51 Z post v0) n) (x1, h) := hw
    unfold wb_Mod_number_51 at hw
    dsimp only at hw
    refine lv_iload_n hx hb d_Mod_number_51 rfl (lv_at hl 1 rfl) ?_
    refine mx_aload_n (r := some v0) hx hb d_Mod_number_52 rfl (lv_at hl 0 rfl) ?_
    obtain ⟨t1, hw⟩ := hw
    refine mx_get (ci := 8) (C := "NetJoinsModel") (T := F_Mod) (N := 33) hx hb hW hown hK.1 hR (a := v0) rfl t1 rfl i_Mod 15 0 (by decide) rfl kw_1150 (fun _ h9 => h9) d_Mod_number_53 ?_
    refine lv_icmp_ge (tgt := 166) hx hb d_Mod_number_56 (by decide) (fun c2 => ?_) (fun c2 => ?_)
    · have hw := hw.1 c2
      exact mx_vret hx hb hr hlocks hR hw d_Mod_number_166
    · have hw := hw.2 c2
      refine mx_aload_n (r := some v0) hx hb d_Mod_number_59 rfl (lv_at hl 0 rfl) ?_
      obtain ⟨t3, hw⟩ := hw
      refine mx_get (ci := 8) (C := "NetJoinsModel") (T := F_Mod) (N := 33) hx hb hW hown hK.1 hR (a := v0) rfl t3 rfl i_Mod 16 2 (by decide) rfl kw_1151 (fun _ h9 => h9) d_Mod_number_60 ?_
      refine lv_iload_n hx hb d_Mod_number_63 rfl (lv_at hl 1 rfl) ?_
      obtain ⟨a4, ea4, t5, t5i, hw⟩ := hw
      refine mx_iald hx hb hK.1 hR (a := a4) ea4 t5 t5i d_Mod_number_64 ?_
      refine lv_topi (fun y6 ey6 => ?_)
      have hw := hw y6 ey6
      refine lv_istore_n (i := 2) (lv' := [(2, .int y6), (0, va_rf (some v0)), (1, .int x1)]) hx hb d_Mod_number_65 rfl hl (by decide) rfl (fun ls hl => ?_)
      obtain ⟨n9, hw⟩ := hw
      exact mn_Mod_number_66 C post (lpF (wb_Mod_number_51 Z post v0) n) ih n9 x1 y6 _ _ _ _ hw (lv_sub hl [1, 2, 0] rfl) hR
set_option maxHeartbeats 4000000 in
set_option maxRecDepth 100000 in
theorem mn_Mod_number_24 {D : va_G} {cs : CS} {Z : Nat → Nat} {h0 : HS} {p : Program} {l : Launch} {e : Env} {s : State} {m : MethodId} {args : Array Value} {below : List Frame} {meth : Method} {c : Code} {v0 : Nat} (C : mC D cs Z h0 y_Mod_number c_Mod_number 4 none p s m args meth c) (post : HS → Prop) : ∀ (n : Nat) (x1 : Int32) (h : HS) (H : Heap) (locs : List Loc) (ls : Array Slot), lpF (wb_Mod_number_24 Z post v0) n (x1, h) → lv_has ls 4 [(0, va_rf (some v0)), (1, .int x1)] → mR D cs (fA h0 s.heap.size) h s.heap H locs → W p l e ({ frames := 3, cells := 0, slots := 0, locals := 122 } : Room) s m args below meth c H locs 0 0 (MQ below (va_Qv post (mB D cs h0 s.heap.size) (fA h0 s.heap.size)) args s 0 0 (fA h0 s.heap.size)) (F0 m 24 ls []) := by
  obtain ⟨hx, hb, hr, hml, hown, hW, hlocks, hnm, hK, hZ⟩ := id C
  have hown : s.vm.findClass "NetJoinsModel" = some m.cls := hown
  have hA : ∀ q, s.heap.size ≤ q → fA h0 s.heap.size q := fun _ h => Or.inr h
  intro n
  induction n with
  | zero => intro x1 h H locs ls hw; exact hw.elim
  | succ n ih =>
    intro x1 h H locs ls hw hl hR
    have hw : wb_Mod_number_24 Z post v0 (lpF (wb_Mod_number_24 Z post v0) n) (x1, h) := hw
    unfold wb_Mod_number_24 at hw
    dsimp only at hw
    refine lv_iload_n hx hb d_Mod_number_24 rfl (lv_at hl 1 rfl) ?_
    refine lv_sipush (v := 960) hx hb d_Mod_number_25 (by decide) ?_
    refine lv_icmp_ge (tgt := 44) hx hb d_Mod_number_28 (by decide) (fun c1 => ?_) (fun c1 => ?_)
    · have hw := hw.1 c1
      refine mx_aload_n (r := some v0) hx hb d_Mod_number_44 rfl (lv_at hl 0 rfl) ?_
      refine lv_iconst (v := 0) hx hb d_Mod_number_45 (by decide) ?_
      obtain ⟨t2, hw⟩ := hw
      refine mx_put (ci := 8) (C := "NetJoinsModel") (T := F_Mod) (N := 33) (v := .int (0 : Int32)) (h' := sI h 829 v0 (0 : Int32)) hx hb hW hown hK.1 hR (a := v0) rfl t2 rfl i_Mod t_Mod t_Mod_ok n_Mod 29 0 (by decide) rfl kw_1164 (fun _ h9 => h9) rfl rfl rfl d_Mod_number_46 rfl (toE_sI (ci := 8) (k := 29) t2 rfl) (fun H locs hR => ?_)
      obtain ⟨h3, eh3⟩ : ∃ z, z = sI h 829 v0 (0 : Int32) := ⟨_, rfl⟩
      rw [← eh3] at hR
      have hw := hw h3 eh3
      refine lv_iconst (v := 0) hx hb d_Mod_number_49 (by decide) ?_
      refine lv_istore_n (i := 1) (lv' := [(1, .int (0 : Int32)), (0, va_rf (some v0))]) hx hb d_Mod_number_50 rfl hl (by decide) rfl (fun ls hl => ?_)
      obtain ⟨n9, hw⟩ := hw
      exact mn_Mod_number_51 C post n9 (0 : Int32) _ _ _ _ hw (lv_sub hl [1, 0] rfl) hR
    · have hw := hw.2 c1
      refine mx_aload_n (r := some v0) hx hb d_Mod_number_31 rfl (lv_at hl 0 rfl) ?_
      obtain ⟨t4, hw⟩ := hw
      refine mx_get (ci := 8) (C := "NetJoinsModel") (T := F_Mod) (N := 33) hx hb hW hown hK.1 hR (a := v0) rfl t4 rfl i_Mod 27 2 (by decide) rfl kw_1162 (fun _ h9 => h9) d_Mod_number_32 ?_
      refine lv_iload_n hx hb d_Mod_number_35 rfl (lv_at hl 1 rfl) ?_
      refine lv_iconst (v := (-1)) hx hb d_Mod_number_36 (by decide) ?_
      obtain ⟨a5, ea5, t6, t6i, hw⟩ := hw
      refine mx_iast hx hb hK.1 hR (a := a5) ea5 t6 t6i d_Mod_number_37 (fun H locs hR => ?_)
      obtain ⟨h7, eh7⟩ : ∃ z, z = sA h a5 x1.toNatClampNeg (-1 : Int32) := ⟨_, rfl⟩
      rw [← eh7] at hR
      have hw := hw h7 eh7
      obtain ⟨y8, ey8⟩ : ∃ y : Int32, y = x1 + (1 : Int32) := ⟨_, rfl⟩
      have hw := hw y8 ey8
      refine lv_iinc (v := y8) (lv' := [(1, .int y8), (0, va_rf (some v0))]) hx hb d_Mod_number_38 hl (k := 1) rfl (by rw [ey8]; rfl) (by decide) rfl (fun ls hl => ?_)
      refine lv_goto (tgt := 24) hx hb d_Mod_number_41 (by decide) ?_
      exact ih y8 _ _ _ _ hw (lv_sub hl [1, 0] rfl) hR
set_option maxHeartbeats 4000000 in
set_option maxRecDepth 100000 in
theorem mn_Mod_number_2 {D : va_G} {cs : CS} {Z : Nat → Nat} {h0 : HS} {p : Program} {l : Launch} {e : Env} {s : State} {m : MethodId} {args : Array Value} {below : List Frame} {meth : Method} {c : Code} {v0 : Nat} (C : mC D cs Z h0 y_Mod_number c_Mod_number 4 none p s m args meth c) (post : HS → Prop) : ∀ (n : Nat) (x1 : Int32) (h : HS) (H : Heap) (locs : List Loc) (ls : Array Slot), lpF (wb_Mod_number_2 Z post v0) n (x1, h) → lv_has ls 4 [(0, va_rf (some v0)), (1, .int x1)] → mR D cs (fA h0 s.heap.size) h s.heap H locs → W p l e ({ frames := 3, cells := 0, slots := 0, locals := 122 } : Room) s m args below meth c H locs 0 0 (MQ below (va_Qv post (mB D cs h0 s.heap.size) (fA h0 s.heap.size)) args s 0 0 (fA h0 s.heap.size)) (F0 m 2 ls []) := by
  obtain ⟨hx, hb, hr, hml, hown, hW, hlocks, hnm, hK, hZ⟩ := id C
  have hown : s.vm.findClass "NetJoinsModel" = some m.cls := hown
  have hA : ∀ q, s.heap.size ≤ q → fA h0 s.heap.size q := fun _ h => Or.inr h
  intro n
  induction n with
  | zero => intro x1 h H locs ls hw; exact hw.elim
  | succ n ih =>
    intro x1 h H locs ls hw hl hR
    have hw : wb_Mod_number_2 Z post v0 (lpF (wb_Mod_number_2 Z post v0) n) (x1, h) := hw
    unfold wb_Mod_number_2 at hw
    dsimp only at hw
    refine lv_iload_n hx hb d_Mod_number_2 rfl (lv_at hl 1 rfl) ?_
    refine lv_sipush (v := 19520) hx hb d_Mod_number_3 (by decide) ?_
    refine lv_icmp_ge (tgt := 22) hx hb d_Mod_number_6 (by decide) (fun c1 => ?_) (fun c1 => ?_)
    · have hw := hw.1 c1
      refine lv_iconst (v := 0) hx hb d_Mod_number_22 (by decide) ?_
      refine lv_istore_n (i := 1) (lv' := [(1, .int (0 : Int32)), (0, va_rf (some v0))]) hx hb d_Mod_number_23 rfl hl (by decide) rfl (fun ls hl => ?_)
      obtain ⟨n9, hw⟩ := hw
      exact mn_Mod_number_24 C post n9 (0 : Int32) _ _ _ _ hw (lv_sub hl [1, 0] rfl) hR
    · have hw := hw.2 c1
      refine mx_aload_n (r := some v0) hx hb d_Mod_number_9 rfl (lv_at hl 0 rfl) ?_
      obtain ⟨t2, hw⟩ := hw
      refine mx_get (ci := 8) (C := "NetJoinsModel") (T := F_Mod) (N := 33) hx hb hW hown hK.1 hR (a := v0) rfl t2 rfl i_Mod 26 2 (by decide) rfl kw_1161 (fun _ h9 => h9) d_Mod_number_10 ?_
      refine lv_iload_n hx hb d_Mod_number_13 rfl (lv_at hl 1 rfl) ?_
      refine lv_iconst (v := (-1)) hx hb d_Mod_number_14 (by decide) ?_
      obtain ⟨a3, ea3, t4, t4i, hw⟩ := hw
      refine mx_iast hx hb hK.1 hR (a := a3) ea3 t4 t4i d_Mod_number_15 (fun H locs hR => ?_)
      obtain ⟨h5, eh5⟩ : ∃ z, z = sA h a3 x1.toNatClampNeg (-1 : Int32) := ⟨_, rfl⟩
      rw [← eh5] at hR
      have hw := hw h5 eh5
      obtain ⟨y6, ey6⟩ : ∃ y : Int32, y = x1 + (1 : Int32) := ⟨_, rfl⟩
      have hw := hw y6 ey6
      refine lv_iinc (v := y6) (lv' := [(1, .int y6), (0, va_rf (some v0))]) hx hb d_Mod_number_16 hl (k := 1) rfl (by rw [ey6]; rfl) (by decide) rfl (fun ls hl => ?_)
      refine lv_goto (tgt := 2) hx hb d_Mod_number_19 (by decide) ?_
      exact ih y6 _ _ _ _ hw (lv_sub hl [1, 0] rfl) hR
set_option maxHeartbeats 4000000 in
set_option maxRecDepth 100000 in
theorem mt_Mod_number (l : Launch) (D : va_G) (cs : CS) (Z : Nat → Nat) (sz : Nat) {post : HS → Prop} {h : HS} {v0 : Nat}  (hw : wp_Mod_number Z post h v0 ) : Met l y_Mod_number (Cond.code y_Mod_number c_Mod_number 4 none :: WA) ({ frames := 3, cells := 0, slots := 0, locals := 122 } : Room) (mPc D cs Z h sz [va_rf (some v0)]) (va_Qv post (mB D cs h sz) (fA h sz)) 0 0 (fA h sz) := by
  refine mx_met (fun sz => va_Qv post (mB D cs h sz) (fA h sz)) (by decide) (by simp [lg_sl, mx_rf_cat, cat_i, cat_l]) ?_
  intro p e s m args below meth c C hR ls hl
  have hl : lv_has ls 4 [(0, va_rf (some v0))] := hl
  obtain ⟨hx, hb, hr, hml, hown, hW, hlocks, hnm, hK, hZ⟩ := id C
  have hown : s.vm.findClass "NetJoinsModel" = some m.cls := hown
  have hA : ∀ q, s.heap.size ≤ q → fA h s.heap.size q := fun _ h => Or.inr h
  unfold wp_Mod_number at hw
  refine lv_iconst (v := 0) hx hb d_Mod_number_0 (by decide) ?_
  refine lv_istore_n (i := 1) (lv' := [(1, .int (0 : Int32)), (0, va_rf (some v0))]) hx hb d_Mod_number_1 rfl hl (by decide) rfl (fun ls hl => ?_)
  obtain ⟨n9, hw⟩ := hw
  exact mn_Mod_number_2 C post n9 (0 : Int32) _ _ _ _ hw (lv_sub hl [1, 0] rfl) hR
set_option maxHeartbeats 4000000 in
set_option maxRecDepth 100000 in
theorem mn_Mod_wasThere_91 {D : va_G} {cs : CS} {Z : Nat → Nat} {h0 : HS} {p : Program} {l : Launch} {e : Env} {s : State} {m : MethodId} {args : Array Value} {below : List Frame} {meth : Method} {c : Code} {v0 : Nat} (C : mC D cs Z h0 y_Mod_wasThere c_Mod_wasThere 6 (some .boolean) p s m args meth c) (post : Int32 → HS → Prop) (K38 : Int32 × Int32 × Int32 × Int32 × HS → Prop) (hK38 : ∀ (x1 : Int32) (x3 : Int32) (x4 : Int32) (x5 : Int32) (h : HS) (H : Heap) (locs : List Loc) (ls : Array Slot), K38 (x1, x3, x4, x5, h) → lv_has ls 6 [(0, va_rf (some v0)), (1, .int x1), (3, .int x3), (4, .int x4), (5, .int x5)] → mR D cs (fA h0 s.heap.size) h s.heap H locs → W p l e ({ frames := 2, cells := 0, slots := 0, locals := 100 } : Room) s m args below meth c H locs 0 0 (MQ below (va_Qi post (mB D cs h0 s.heap.size) (fA h0 s.heap.size)) args s 0 0 (fA h0 s.heap.size)) (F0 m 38 ls [])) : ∀ (x1 : Int32) (x3 : Int32) (x5 : Int32) (s0 : Int32) (h : HS) (H : Heap) (locs : List Loc) (ls : Array Slot), wj_Mod_wasThere_91 Z post K38 v0 x1 x3 x5 s0 h → lv_has ls 6 [(0, va_rf (some v0)), (1, .int x1), (3, .int x3), (5, .int x5)] → mR D cs (fA h0 s.heap.size) h s.heap H locs → W p l e ({ frames := 2, cells := 0, slots := 0, locals := 100 } : Room) s m args below meth c H locs 0 0 (MQ below (va_Qi post (mB D cs h0 s.heap.size) (fA h0 s.heap.size)) args s 0 0 (fA h0 s.heap.size)) (F0 m 91 ls [.int s0]) := by
  obtain ⟨hx, hb, hr, hml, hown, hW, hlocks, hnm, hK, hZ⟩ := id C
  have hown : s.vm.findClass "NetJoinsModel" = some m.cls := hown
  have hA : ∀ q, s.heap.size ≤ q → fA h0 s.heap.size q := fun _ h => Or.inr h
  intro x1 x3 x5 s0 h H locs ls hw hl hR
  unfold wj_Mod_wasThere_91 at hw
  refine lv_istore (i := 4) (lv' := [(4, .int s0), (0, va_rf (some v0)), (1, .int x1), (3, .int x3), (5, .int x5)]) hx hb d_Mod_wasThere_91 hl (by decide) rfl (fun ls hl => ?_)
  obtain ⟨y1, ey1⟩ : ∃ y : Int32, y = x5 + (1 : Int32) := ⟨_, rfl⟩
  have hw := hw y1 ey1
  refine lv_iinc (v := y1) (lv' := [(5, .int y1), (4, .int s0), (0, va_rf (some v0)), (1, .int x1), (3, .int x3)]) hx hb d_Mod_wasThere_93 hl (k := 4) rfl (by rw [ey1]; rfl) (by decide) rfl (fun ls hl => ?_)
  refine lv_goto (tgt := 38) hx hb d_Mod_wasThere_96 (by decide) ?_
  exact hK38 x1 x3 s0 y1 _ _ _ _ hw (lv_sub hl [2, 3, 4, 1, 0] rfl) hR
set_option maxHeartbeats 4000000 in
set_option maxRecDepth 100000 in
theorem mn_Mod_wasThere_90 {D : va_G} {cs : CS} {Z : Nat → Nat} {h0 : HS} {p : Program} {l : Launch} {e : Env} {s : State} {m : MethodId} {args : Array Value} {below : List Frame} {meth : Method} {c : Code} {v0 : Nat} (C : mC D cs Z h0 y_Mod_wasThere c_Mod_wasThere 6 (some .boolean) p s m args meth c) (post : Int32 → HS → Prop) (K38 : Int32 × Int32 × Int32 × Int32 × HS → Prop) (hK38 : ∀ (x1 : Int32) (x3 : Int32) (x4 : Int32) (x5 : Int32) (h : HS) (H : Heap) (locs : List Loc) (ls : Array Slot), K38 (x1, x3, x4, x5, h) → lv_has ls 6 [(0, va_rf (some v0)), (1, .int x1), (3, .int x3), (4, .int x4), (5, .int x5)] → mR D cs (fA h0 s.heap.size) h s.heap H locs → W p l e ({ frames := 2, cells := 0, slots := 0, locals := 100 } : Room) s m args below meth c H locs 0 0 (MQ below (va_Qi post (mB D cs h0 s.heap.size) (fA h0 s.heap.size)) args s 0 0 (fA h0 s.heap.size)) (F0 m 38 ls [])) : ∀ (x1 : Int32) (x3 : Int32) (x5 : Int32) (h : HS) (H : Heap) (locs : List Loc) (ls : Array Slot), wj_Mod_wasThere_90 Z post K38 v0 x1 x3 x5 h → lv_has ls 6 [(0, va_rf (some v0)), (1, .int x1), (3, .int x3), (5, .int x5)] → mR D cs (fA h0 s.heap.size) h s.heap H locs → W p l e ({ frames := 2, cells := 0, slots := 0, locals := 100 } : Room) s m args below meth c H locs 0 0 (MQ below (va_Qi post (mB D cs h0 s.heap.size) (fA h0 s.heap.size)) args s 0 0 (fA h0 s.heap.size)) (F0 m 90 ls []) := by
  obtain ⟨hx, hb, hr, hml, hown, hW, hlocks, hnm, hK, hZ⟩ := id C
  have hown : s.vm.findClass "NetJoinsModel" = some m.cls := hown
  have hA : ∀ q, s.heap.size ≤ q → fA h0 s.heap.size q := fun _ h => Or.inr h
  intro x1 x3 x5 h H locs ls hw hl hR
  unfold wj_Mod_wasThere_90 at hw
  refine lv_iconst (v := 0) hx hb d_Mod_wasThere_90 (by decide) ?_
  exact mn_Mod_wasThere_91 C post K38 hK38 x1 x3 x5 (0 : Int32) _ _ _ _ hw (lv_sub hl [0, 1, 2, 3] rfl) hR
set_option maxHeartbeats 4000000 in
set_option maxRecDepth 100000 in
theorem mn_Mod_wasThere_83 {D : va_G} {cs : CS} {Z : Nat → Nat} {h0 : HS} {p : Program} {l : Launch} {e : Env} {s : State} {m : MethodId} {args : Array Value} {below : List Frame} {meth : Method} {c : Code} {v0 : Nat} (C : mC D cs Z h0 y_Mod_wasThere c_Mod_wasThere 6 (some .boolean) p s m args meth c) (post : Int32 → HS → Prop) (K38 : Int32 × Int32 × Int32 × Int32 × HS → Prop) (hK38 : ∀ (x1 : Int32) (x3 : Int32) (x4 : Int32) (x5 : Int32) (h : HS) (H : Heap) (locs : List Loc) (ls : Array Slot), K38 (x1, x3, x4, x5, h) → lv_has ls 6 [(0, va_rf (some v0)), (1, .int x1), (3, .int x3), (4, .int x4), (5, .int x5)] → mR D cs (fA h0 s.heap.size) h s.heap H locs → W p l e ({ frames := 2, cells := 0, slots := 0, locals := 100 } : Room) s m args below meth c H locs 0 0 (MQ below (va_Qi post (mB D cs h0 s.heap.size) (fA h0 s.heap.size)) args s 0 0 (fA h0 s.heap.size)) (F0 m 38 ls [])) : ∀ (x1 : Int32) (x3 : Int32) (x5 : Int32) (s0 : Int32) (s1 : Int32) (h : HS) (H : Heap) (locs : List Loc) (ls : Array Slot), wj_Mod_wasThere_83 Z post K38 v0 x1 x3 x5 s0 s1 h → lv_has ls 6 [(0, va_rf (some v0)), (1, .int x1), (3, .int x3), (5, .int x5)] → mR D cs (fA h0 s.heap.size) h s.heap H locs → W p l e ({ frames := 2, cells := 0, slots := 0, locals := 100 } : Room) s m args below meth c H locs 0 0 (MQ below (va_Qi post (mB D cs h0 s.heap.size) (fA h0 s.heap.size)) args s 0 0 (fA h0 s.heap.size)) (F0 m 83 ls [.int s0, .int s1]) := by
  obtain ⟨hx, hb, hr, hml, hown, hW, hlocks, hnm, hK, hZ⟩ := id C
  have hown : s.vm.findClass "NetJoinsModel" = some m.cls := hown
  have hA : ∀ q, s.heap.size ≤ q → fA h0 s.heap.size q := fun _ h => Or.inr h
  intro x1 x3 x5 s0 s1 h H locs ls hw hl hR
  unfold wj_Mod_wasThere_83 at hw
  refine lv_icmp_ne (tgt := 90) hx hb d_Mod_wasThere_83 (by decide) (fun c1 => ?_) (fun c1 => ?_)
  · have hw := hw.1 c1
    exact mn_Mod_wasThere_90 C post K38 hK38 x1 x3 x5 _ _ _ _ hw (lv_sub hl [0, 1, 2, 3] rfl) hR
  · have hw := hw.2 c1
    refine lv_iconst (v := 1) hx hb d_Mod_wasThere_86 (by decide) ?_
    refine lv_goto (tgt := 91) hx hb d_Mod_wasThere_87 (by decide) ?_
    exact mn_Mod_wasThere_91 C post K38 hK38 x1 x3 x5 (1 : Int32) _ _ _ _ hw (lv_sub hl [0, 1, 2, 3] rfl) hR
set_option maxHeartbeats 4000000 in
set_option maxRecDepth 100000 in
theorem mn_Mod_wasThere_67 {D : va_G} {cs : CS} {Z : Nat → Nat} {h0 : HS} {p : Program} {l : Launch} {e : Env} {s : State} {m : MethodId} {args : Array Value} {below : List Frame} {meth : Method} {c : Code} {v0 : Nat} (C : mC D cs Z h0 y_Mod_wasThere c_Mod_wasThere 6 (some .boolean) p s m args meth c) (post : Int32 → HS → Prop) (K38 : Int32 × Int32 × Int32 × Int32 × HS → Prop) (hK38 : ∀ (x1 : Int32) (x3 : Int32) (x4 : Int32) (x5 : Int32) (h : HS) (H : Heap) (locs : List Loc) (ls : Array Slot), K38 (x1, x3, x4, x5, h) → lv_has ls 6 [(0, va_rf (some v0)), (1, .int x1), (3, .int x3), (4, .int x4), (5, .int x5)] → mR D cs (fA h0 s.heap.size) h s.heap H locs → W p l e ({ frames := 2, cells := 0, slots := 0, locals := 100 } : Room) s m args below meth c H locs 0 0 (MQ below (va_Qi post (mB D cs h0 s.heap.size) (fA h0 s.heap.size)) args s 0 0 (fA h0 s.heap.size)) (F0 m 38 ls [])) : ∀ (x1 : Int32) (x3 : Int32) (x5 : Int32) (s0 : Int32) (h : HS) (H : Heap) (locs : List Loc) (ls : Array Slot), wj_Mod_wasThere_67 Z post K38 v0 x1 x3 x5 s0 h → lv_has ls 6 [(0, va_rf (some v0)), (1, .int x1), (3, .int x3), (5, .int x5)] → mR D cs (fA h0 s.heap.size) h s.heap H locs → W p l e ({ frames := 2, cells := 0, slots := 0, locals := 100 } : Room) s m args below meth c H locs 0 0 (MQ below (va_Qi post (mB D cs h0 s.heap.size) (fA h0 s.heap.size)) args s 0 0 (fA h0 s.heap.size)) (F0 m 67 ls [.int s0]) := by
  obtain ⟨hx, hb, hr, hml, hown, hW, hlocks, hnm, hK, hZ⟩ := id C
  have hown : s.vm.findClass "NetJoinsModel" = some m.cls := hown
  have hA : ∀ q, s.heap.size ≤ q → fA h0 s.heap.size q := fun _ h => Or.inr h
  intro x1 x3 x5 s0 h H locs ls hw hl hR
  unfold wj_Mod_wasThere_67 at hw
  refine mx_aload_n (r := some v0) hx hb d_Mod_wasThere_67 rfl (lv_at hl 0 rfl) ?_
  obtain ⟨t1, hw⟩ := hw
  refine mx_get (ci := 8) (C := "NetJoinsModel") (T := F_Mod) (N := 33) hx hb hW hown hK.1 hR (a := v0) rfl t1 rfl i_Mod 28 2 (by decide) rfl kw_1163 (fun _ h9 => h9) d_Mod_wasThere_68 ?_
  refine lv_iload hx hb d_Mod_wasThere_71 (lv_at hl 3 rfl) ?_
  obtain ⟨a2, ea2, t3, t3i, hw⟩ := hw
  refine mx_iald hx hb hK.1 hR (a := a2) ea2 t3 t3i d_Mod_wasThere_73 ?_
  refine lv_iload_n hx hb d_Mod_wasThere_74 rfl (lv_at hl 2 rfl) ?_
  refine lv_icmp_ne (tgt := 82) hx hb d_Mod_wasThere_75 (by decide) (fun c4 => ?_) (fun c4 => ?_)
  · have hw := hw.1 c4
    refine lv_iconst (v := 0) hx hb d_Mod_wasThere_82 (by decide) ?_
    exact mn_Mod_wasThere_83 C post K38 hK38 x1 x3 x5 (0 : Int32) s0 _ _ _ _ hw (lv_sub hl [0, 1, 2, 3] rfl) hR
  · have hw := hw.2 c4
    refine lv_iconst (v := 1) hx hb d_Mod_wasThere_78 (by decide) ?_
    refine lv_goto (tgt := 83) hx hb d_Mod_wasThere_79 (by decide) ?_
    exact mn_Mod_wasThere_83 C post K38 hK38 x1 x3 x5 (1 : Int32) s0 _ _ _ _ hw (lv_sub hl [0, 1, 2, 3] rfl) hR
set_option maxHeartbeats 4000000 in
set_option maxRecDepth 100000 in
theorem mn_Mod_wasThere_38 {D : va_G} {cs : CS} {Z : Nat → Nat} {h0 : HS} {p : Program} {l : Launch} {e : Env} {s : State} {m : MethodId} {args : Array Value} {below : List Frame} {meth : Method} {c : Code} {v0 : Nat} (C : mC D cs Z h0 y_Mod_wasThere c_Mod_wasThere 6 (some .boolean) p s m args meth c) (post : Int32 → HS → Prop) : ∀ (n : Nat) (x1 : Int32) (x3 : Int32) (x4 : Int32) (x5 : Int32) (h : HS) (H : Heap) (locs : List Loc) (ls : Array Slot), lpF (wb_Mod_wasThere_38 Z post v0) n (x1, x3, x4, x5, h) → lv_has ls 6 [(0, va_rf (some v0)), (1, .int x1), (3, .int x3), (4, .int x4), (5, .int x5)] → mR D cs (fA h0 s.heap.size) h s.heap H locs → W p l e ({ frames := 2, cells := 0, slots := 0, locals := 100 } : Room) s m args below meth c H locs 0 0 (MQ below (va_Qi post (mB D cs h0 s.heap.size) (fA h0 s.heap.size)) args s 0 0 (fA h0 s.heap.size)) (F0 m 38 ls []) := by
  obtain ⟨hx, hb, hr, hml, hown, hW, hlocks, hnm, hK, hZ⟩ := id C
  have hown : s.vm.findClass "NetJoinsModel" = some m.cls := hown
  have hA : ∀ q, s.heap.size ≤ q → fA h0 s.heap.size q := fun _ h => Or.inr h
  intro n
  induction n with
  | zero => intro x1 x3 x4 x5 h H locs ls hw; exact hw.elim
  | succ n ih =>
    intro x1 x3 x4 x5 h H locs ls hw hl hR
    have hw : wb_Mod_wasThere_38 Z post v0 (lpF (wb_Mod_wasThere_38 Z post v0) n) (x1, x3, x4, x5, h) := hw
    unfold wb_Mod_wasThere_38 at hw
    dsimp only at hw
    refine lv_iload hx hb d_Mod_wasThere_38 (lv_at hl 4 rfl) ?_
    refine lv_sipush (v := 960) hx hb d_Mod_wasThere_40 (by decide) ?_
    refine lv_icmp_ge (tgt := 99) hx hb d_Mod_wasThere_43 (by decide) (fun c1 => ?_) (fun c1 => ?_)
    · have hw := hw.1 c1
      refine lv_iload hx hb d_Mod_wasThere_99 (lv_at hl 3 rfl) ?_
      exact mx_zret hx hb hr hlocks hR hw.1 hw.2 d_Mod_wasThere_101
    · have hw := hw.2 c1
      refine lv_iload hx hb d_Mod_wasThere_46 (lv_at hl 3 rfl) ?_
      refine lv_if_eq (tgt := 90) hx hb d_Mod_wasThere_48 (by decide) (fun c2 => ?_) (fun c2 => ?_)
      · have hw := hw.1 c2
        exact mn_Mod_wasThere_90 C post (lpF (wb_Mod_wasThere_38 Z post v0) n) ih x1 x3 x5 _ _ _ _ hw (lv_sub hl [0, 1, 2, 4] rfl) hR
      · have hw := hw.2 c2
        refine mx_aload_n (r := some v0) hx hb d_Mod_wasThere_51 rfl (lv_at hl 0 rfl) ?_
        obtain ⟨t3, hw⟩ := hw
        refine mx_get (ci := 8) (C := "NetJoinsModel") (T := F_Mod) (N := 33) hx hb hW hown hK.1 hR (a := v0) rfl t3 rfl i_Mod 27 2 (by decide) rfl kw_1162 (fun _ h9 => h9) d_Mod_wasThere_52 ?_
        refine lv_iload hx hb d_Mod_wasThere_55 (lv_at hl 4 rfl) ?_
        obtain ⟨a4, ea4, t5, t5i, hw⟩ := hw
        refine mx_iald hx hb hK.1 hR (a := a4) ea4 t5 t5i d_Mod_wasThere_57 ?_
        refine lv_iload_n hx hb d_Mod_wasThere_58 rfl (lv_at hl 1 rfl) ?_
        refine lv_icmp_ne (tgt := 66) hx hb d_Mod_wasThere_59 (by decide) (fun c6 => ?_) (fun c6 => ?_)
        · have hw := hw.1 c6
          refine lv_iconst (v := 0) hx hb d_Mod_wasThere_66 (by decide) ?_
          exact mn_Mod_wasThere_67 C post (lpF (wb_Mod_wasThere_38 Z post v0) n) ih x1 x3 x5 (0 : Int32) _ _ _ _ hw (lv_sub hl [0, 1, 2, 4] rfl) hR
        · have hw := hw.2 c6
          refine lv_iconst (v := 1) hx hb d_Mod_wasThere_62 (by decide) ?_
          refine lv_goto (tgt := 67) hx hb d_Mod_wasThere_63 (by decide) ?_
          exact mn_Mod_wasThere_67 C post (lpF (wb_Mod_wasThere_38 Z post v0) n) ih x1 x3 x5 (1 : Int32) _ _ _ _ hw (lv_sub hl [0, 1, 2, 4] rfl) hR
set_option maxHeartbeats 4000000 in
set_option maxRecDepth 100000 in
theorem mn_Mod_wasThere_2 {D : va_G} {cs : CS} {Z : Nat → Nat} {h0 : HS} {p : Program} {l : Launch} {e : Env} {s : State} {m : MethodId} {args : Array Value} {below : List Frame} {meth : Method} {c : Code} {v0 : Nat} (C : mC D cs Z h0 y_Mod_wasThere c_Mod_wasThere 6 (some .boolean) p s m args meth c) (post : Int32 → HS → Prop) : ∀ (n : Nat) (x1 : Int32) (x2 : Int32) (h : HS) (H : Heap) (locs : List Loc) (ls : Array Slot), lpF (wb_Mod_wasThere_2 Z post v0) n (x1, x2, h) → lv_has ls 6 [(0, va_rf (some v0)), (1, .int x1), (2, .int x2)] → mR D cs (fA h0 s.heap.size) h s.heap H locs → W p l e ({ frames := 2, cells := 0, slots := 0, locals := 100 } : Room) s m args below meth c H locs 0 0 (MQ below (va_Qi post (mB D cs h0 s.heap.size) (fA h0 s.heap.size)) args s 0 0 (fA h0 s.heap.size)) (F0 m 2 ls []) := by
  obtain ⟨hx, hb, hr, hml, hown, hW, hlocks, hnm, hK, hZ⟩ := id C
  have hown : s.vm.findClass "NetJoinsModel" = some m.cls := hown
  have hA : ∀ q, s.heap.size ≤ q → fA h0 s.heap.size q := fun _ h => Or.inr h
  intro n
  induction n with
  | zero => intro x1 x2 h H locs ls hw; exact hw.elim
  | succ n ih =>
    intro x1 x2 h H locs ls hw hl hR
    have hw : wb_Mod_wasThere_2 Z post v0 (lpF (wb_Mod_wasThere_2 Z post v0) n) (x1, x2, h) := hw
    unfold wb_Mod_wasThere_2 at hw
    dsimp only at hw
    refine mx_aload_n (r := some v0) hx hb d_Mod_wasThere_2 rfl (lv_at hl 0 rfl) ?_
    obtain ⟨t1, hw⟩ := hw
    refine mx_get (ci := 8) (C := "NetJoinsModel") (T := F_Mod) (N := 33) hx hb hW hown hK.1 hR (a := v0) rfl t1 rfl i_Mod 27 2 (by decide) rfl kw_1162 (fun _ h9 => h9) d_Mod_wasThere_3 ?_
    refine lv_iload_n hx hb d_Mod_wasThere_6 rfl (lv_at hl 2 rfl) ?_
    obtain ⟨a2, ea2, t3, t3i, hw⟩ := hw
    refine mx_iald hx hb hK.1 hR (a := a2) ea2 t3 t3i d_Mod_wasThere_7 ?_
    refine lv_iload_n hx hb d_Mod_wasThere_8 rfl (lv_at hl 1 rfl) ?_
    refine lv_icmp_eq (tgt := 18) hx hb d_Mod_wasThere_9 (by decide) (fun c4 => ?_) (fun c4 => ?_)
    · have hw := hw.1 c4
      refine mx_aload_n (r := some v0) hx hb d_Mod_wasThere_18 rfl (lv_at hl 0 rfl) ?_
      obtain ⟨t5, hw⟩ := hw
      refine mx_get (ci := 8) (C := "NetJoinsModel") (T := F_Mod) (N := 33) hx hb hW hown hK.1 hR (a := v0) rfl t5 rfl i_Mod 28 2 (by decide) rfl kw_1163 (fun _ h9 => h9) d_Mod_wasThere_19 ?_
      refine lv_iload_n hx hb d_Mod_wasThere_22 rfl (lv_at hl 2 rfl) ?_
      obtain ⟨a6, ea6, t7, t7i, hw⟩ := hw
      refine mx_iald hx hb hK.1 hR (a := a6) ea6 t7 t7i d_Mod_wasThere_23 ?_
      refine lv_topi (fun y8 ey8 => ?_)
      have hw := hw y8 ey8
      refine lv_istore_n (i := 3) (lv' := [(3, .int y8), (0, va_rf (some v0)), (1, .int x1), (2, .int x2)]) hx hb d_Mod_wasThere_24 rfl hl (by decide) rfl (fun ls hl => ?_)
      refine lv_iload_n hx hb d_Mod_wasThere_25 rfl (lv_at hl 0 rfl) ?_
      refine lv_iconst (v := (-1)) hx hb d_Mod_wasThere_26 (by decide) ?_
      refine lv_icmp_ne (tgt := 32) hx hb d_Mod_wasThere_27 (by decide) (fun c9 => ?_) (fun c9 => ?_)
      · have hw := hw.1 c9
        refine lv_iconst (v := 1) hx hb d_Mod_wasThere_32 (by decide) ?_
        refine lv_istore (i := 4) (lv' := [(4, .int (1 : Int32)), (3, .int y8), (0, va_rf (some v0)), (1, .int x1), (2, .int x2)]) hx hb d_Mod_wasThere_33 hl (by decide) rfl (fun ls hl => ?_)
        refine lv_iconst (v := 0) hx hb d_Mod_wasThere_35 (by decide) ?_
        refine lv_istore (i := 5) (lv' := [(5, .int (0 : Int32)), (4, .int (1 : Int32)), (3, .int y8), (0, va_rf (some v0)), (1, .int x1), (2, .int x2)]) hx hb d_Mod_wasThere_36 hl (by decide) rfl (fun ls hl => ?_)
        obtain ⟨n9, hw⟩ := hw
        exact mn_Mod_wasThere_38 C post n9 x1 y8 (1 : Int32) (0 : Int32) _ _ _ _ hw (lv_sub hl [3, 4, 2, 1, 0] rfl) hR
      · have hw := hw.2 c9
        refine lv_iconst (v := 0) hx hb d_Mod_wasThere_30 (by decide) ?_
        exact mx_zret hx hb hr hlocks hR (Or.inl rfl) hw d_Mod_wasThere_31
    · have hw := hw.2 c4
      obtain ⟨y10, ey10⟩ : ∃ y : Int32, y = x2 + (1 : Int32) := ⟨_, rfl⟩
      have hw := hw y10 ey10
      refine lv_iinc (v := y10) (lv' := [(2, .int y10), (0, va_rf (some v0)), (1, .int x1)]) hx hb d_Mod_wasThere_12 hl (k := 2) rfl (by rw [ey10]; rfl) (by decide) rfl (fun ls hl => ?_)
      refine lv_goto (tgt := 2) hx hb d_Mod_wasThere_15 (by decide) ?_
      exact ih x1 y10 _ _ _ _ hw (lv_sub hl [1, 2, 0] rfl) hR
set_option maxHeartbeats 4000000 in
set_option maxRecDepth 100000 in
theorem mt_Mod_wasThere (l : Launch) (D : va_G) (cs : CS) (Z : Nat → Nat) (sz : Nat) {post : Int32 → HS → Prop} {h : HS} {v0 : Nat} {x1 : Int32} (hw : wp_Mod_wasThere Z post h v0 x1) : Met l y_Mod_wasThere (Cond.code y_Mod_wasThere c_Mod_wasThere 6 (some .boolean) :: WA) ({ frames := 2, cells := 0, slots := 0, locals := 100 } : Room) (mPc D cs Z h sz [va_rf (some v0), .int x1]) (va_Qi post (mB D cs h sz) (fA h sz)) 0 0 (fA h sz) := by
  refine mx_met (fun sz => va_Qi post (mB D cs h sz) (fA h sz)) (by decide) (by simp [lg_sl, mx_rf_cat, cat_i, cat_l]) ?_
  intro p e s m args below meth c C hR ls hl
  have hl : lv_has ls 6 [(0, va_rf (some v0)), (1, .int x1)] := hl
  obtain ⟨hx, hb, hr, hml, hown, hW, hlocks, hnm, hK, hZ⟩ := id C
  have hown : s.vm.findClass "NetJoinsModel" = some m.cls := hown
  have hA : ∀ q, s.heap.size ≤ q → fA h s.heap.size q := fun _ h => Or.inr h
  unfold wp_Mod_wasThere at hw
  refine lv_iconst (v := 0) hx hb d_Mod_wasThere_0 (by decide) ?_
  refine lv_istore_n (i := 2) (lv' := [(2, .int (0 : Int32)), (0, va_rf (some v0)), (1, .int x1)]) hx hb d_Mod_wasThere_1 rfl hl (by decide) rfl (fun ls hl => ?_)
  obtain ⟨n9, hw⟩ := hw
  exact mn_Mod_wasThere_2 C post n9 x1 (0 : Int32) _ _ _ _ hw (lv_sub hl [1, 2, 0] rfl) hR
set_option maxHeartbeats 4000000 in
set_option maxRecDepth 100000 in
theorem mn_Mod_anew_104 {D : va_G} {cs : CS} {Z : Nat → Nat} {h0 : HS} {p : Program} {l : Launch} {e : Env} {s : State} {m : MethodId} {args : Array Value} {below : List Frame} {meth : Method} {c : Code} {v0 : Nat} (C : mC D cs Z h0 y_Mod_anew c_Mod_anew 2 none p s m args meth c) (post : HS → Prop) (K58 : Int32 × HS → Prop) (hK58 : ∀ (x1 : Int32) (h : HS) (H : Heap) (locs : List Loc) (ls : Array Slot), K58 (x1, h) → lv_has ls 2 [(0, va_rf (some v0)), (1, .int x1)] → mR D cs (fA h0 s.heap.size) h s.heap H locs → W p l e ({ frames := 7, cells := 0, slots := 0, locals := 222 } : Room) s m args below meth c H locs 0 0 (MQ below (va_Qv post (mB D cs h0 s.heap.size) (fA h0 s.heap.size)) args s 0 0 (fA h0 s.heap.size)) (F0 m 58 ls [])) : ∀ (x1 : Int32) (s0 : Int32) (s1 : Int32) (s2 : Option Nat) (h : HS) (H : Heap) (locs : List Loc) (ls : Array Slot), wj_Mod_anew_104 Z post K58 v0 x1 s0 s1 s2 h → lv_has ls 2 [(0, va_rf (some v0)), (1, .int x1)] → mR D cs (fA h0 s.heap.size) h s.heap H locs → W p l e ({ frames := 7, cells := 0, slots := 0, locals := 222 } : Room) s m args below meth c H locs 0 0 (MQ below (va_Qv post (mB D cs h0 s.heap.size) (fA h0 s.heap.size)) args s 0 0 (fA h0 s.heap.size)) (F0 m 104 ls [.int s0, .int s1, va_rf s2]) := by
  obtain ⟨hx, hb, hr, hml, hown, hW, hlocks, hnm, hK, hZ⟩ := id C
  have hown : s.vm.findClass "NetJoinsModel" = some m.cls := hown
  have hA : ∀ q, s.heap.size ≤ q → fA h0 s.heap.size q := fun _ h => Or.inr h
  intro x1 s0 s1 s2 h H locs ls hw hl hR
  unfold wj_Mod_anew_104 at hw
  refine lv_iadd hx hb d_Mod_anew_104 ?_
  obtain ⟨a1, ea1, t2, hw⟩ := hw
  refine mx_put (ci := 8) (C := "NetJoinsModel") (T := F_Mod) (N := 33) (v := .int (s1 + s0)) (h' := sI h 831 a1 (s1 + s0)) hx hb hW hown hK.1 hR (a := a1) ea1 t2 rfl i_Mod t_Mod t_Mod_ok n_Mod 31 0 (by decide) rfl kw_1166 (fun _ h9 => h9) rfl rfl rfl d_Mod_anew_105 rfl (toE_sI (ci := 8) (k := 31) t2 rfl) (fun H locs hR => ?_)
  obtain ⟨h3, eh3⟩ : ∃ z, z = sI h 831 a1 (s1 + s0) := ⟨_, rfl⟩
  rw [← eh3] at hR
  have hw := hw h3 eh3
  obtain ⟨y4, ey4⟩ : ∃ y : Int32, y = x1 + (1 : Int32) := ⟨_, rfl⟩
  have hw := hw y4 ey4
  refine lv_iinc (v := y4) (lv' := [(1, .int y4), (0, va_rf (some v0))]) hx hb d_Mod_anew_108 hl (k := 1) rfl (by rw [ey4]; rfl) (by decide) rfl (fun ls hl => ?_)
  refine lv_goto (tgt := 58) hx hb d_Mod_anew_111 (by decide) ?_
  exact hK58 y4 _ _ _ _ hw (lv_sub hl [1, 0] rfl) hR
set_option maxHeartbeats 4000000 in
set_option maxRecDepth 100000 in
theorem mn_Mod_anew_84 {D : va_G} {cs : CS} {Z : Nat → Nat} {h0 : HS} {p : Program} {l : Launch} {e : Env} {s : State} {m : MethodId} {args : Array Value} {below : List Frame} {meth : Method} {c : Code} {v0 : Nat} (C : mC D cs Z h0 y_Mod_anew c_Mod_anew 2 none p s m args meth c) (post : HS → Prop) (K58 : Int32 × HS → Prop) (hK58 : ∀ (x1 : Int32) (h : HS) (H : Heap) (locs : List Loc) (ls : Array Slot), K58 (x1, h) → lv_has ls 2 [(0, va_rf (some v0)), (1, .int x1)] → mR D cs (fA h0 s.heap.size) h s.heap H locs → W p l e ({ frames := 7, cells := 0, slots := 0, locals := 222 } : Room) s m args below meth c H locs 0 0 (MQ below (va_Qv post (mB D cs h0 s.heap.size) (fA h0 s.heap.size)) args s 0 0 (fA h0 s.heap.size)) (F0 m 58 ls [])) : ∀ (x1 : Int32) (s0 : Int32) (s1 : Int32) (s2 : Option Nat) (h : HS) (H : Heap) (locs : List Loc) (ls : Array Slot), wj_Mod_anew_84 Z post K58 v0 x1 s0 s1 s2 h → lv_has ls 2 [(0, va_rf (some v0)), (1, .int x1)] → mR D cs (fA h0 s.heap.size) h s.heap H locs → W p l e ({ frames := 7, cells := 0, slots := 0, locals := 222 } : Room) s m args below meth c H locs 0 0 (MQ below (va_Qv post (mB D cs h0 s.heap.size) (fA h0 s.heap.size)) args s 0 0 (fA h0 s.heap.size)) (F0 m 84 ls [.int s0, .int s1, va_rf s2]) := by
  obtain ⟨hx, hb, hr, hml, hown, hW, hlocks, hnm, hK, hZ⟩ := id C
  have hown : s.vm.findClass "NetJoinsModel" = some m.cls := hown
  have hA : ∀ q, s.heap.size ≤ q → fA h0 s.heap.size q := fun _ h => Or.inr h
  intro x1 s0 s1 s2 h H locs ls hw hl hR
  unfold wj_Mod_anew_84 at hw
  obtain ⟨a1, ea1, t2, t2i, hw⟩ := hw
  obtain ⟨z3, hw⟩ := hw
  refine mx_zast hx hb hK.1 hR (a := a1) ea1 t2 z3 t2i d_Mod_anew_84 (fun H locs hR => ?_)
  obtain ⟨h4, eh4⟩ : ∃ z, z = sA h a1 s1.toNatClampNeg s0 := ⟨_, rfl⟩
  rw [← eh4] at hR
  have hw := hw h4 eh4
  refine mx_aload_n (r := some v0) hx hb d_Mod_anew_85 rfl (lv_at hl 0 rfl) ?_
  refine lv_dup hx hb d_Mod_anew_86 (mx_rf_cat _) ?_
  obtain ⟨t5, hw⟩ := hw
  refine mx_get (ci := 8) (C := "NetJoinsModel") (T := F_Mod) (N := 33) hx hb hW hown hK.1 hR (a := v0) rfl t5 rfl i_Mod 31 0 (by decide) rfl kw_1166 (fun _ h9 => h9) d_Mod_anew_87 ?_
  refine mx_aload_n (r := some v0) hx hb d_Mod_anew_90 rfl (lv_at hl 0 rfl) ?_
  obtain ⟨t6, hw⟩ := hw
  refine mx_get (ci := 8) (C := "NetJoinsModel") (T := F_Mod) (N := 33) hx hb hW hown hK.1 hR (a := v0) rfl t6 rfl i_Mod 30 2 (by decide) rfl kw_1165 (fun _ h9 => h9) d_Mod_anew_91 ?_
  refine lv_iload_n hx hb d_Mod_anew_94 rfl (lv_at hl 1 rfl) ?_
  obtain ⟨a7, ea7, t8, t8i, hw⟩ := hw
  refine mx_zald hx hb hK.1 hR (a := a7) ea7 t8 t8i d_Mod_anew_95 ?_
  refine lv_if_eq (tgt := 103) hx hb d_Mod_anew_96 (by decide) (fun c9 => ?_) (fun c9 => ?_)
  · have hw := hw.1 c9
    refine lv_iconst (v := 0) hx hb d_Mod_anew_103 (by decide) ?_
    exact mn_Mod_anew_104 C post K58 hK58 x1 (0 : Int32) (gI h4 831 v0) (some v0) _ _ _ _ hw (lv_sub hl [0, 1] rfl) hR
  · have hw := hw.2 c9
    refine lv_iconst (v := 1) hx hb d_Mod_anew_99 (by decide) ?_
    refine lv_goto (tgt := 104) hx hb d_Mod_anew_100 (by decide) ?_
    exact mn_Mod_anew_104 C post K58 hK58 x1 (1 : Int32) (gI h4 831 v0) (some v0) _ _ _ _ hw (lv_sub hl [0, 1] rfl) hR
set_option maxHeartbeats 4000000 in
set_option maxRecDepth 100000 in
theorem mn_Mod_anew_58 {D : va_G} {cs : CS} {Z : Nat → Nat} {h0 : HS} {p : Program} {l : Launch} {e : Env} {s : State} {m : MethodId} {args : Array Value} {below : List Frame} {meth : Method} {c : Code} {v0 : Nat} (C : mC D cs Z h0 y_Mod_anew c_Mod_anew 2 none p s m args meth c) (post : HS → Prop) : ∀ (n : Nat) (x1 : Int32) (h : HS) (H : Heap) (locs : List Loc) (ls : Array Slot), lpF (wb_Mod_anew_58 Z post v0) n (x1, h) → lv_has ls 2 [(0, va_rf (some v0)), (1, .int x1)] → mR D cs (fA h0 s.heap.size) h s.heap H locs → W p l e ({ frames := 7, cells := 0, slots := 0, locals := 222 } : Room) s m args below meth c H locs 0 0 (MQ below (va_Qv post (mB D cs h0 s.heap.size) (fA h0 s.heap.size)) args s 0 0 (fA h0 s.heap.size)) (F0 m 58 ls []) := by
  obtain ⟨hx, hb, hr, hml, hown, hW, hlocks, hnm, hK, hZ⟩ := id C
  have hown : s.vm.findClass "NetJoinsModel" = some m.cls := hown
  have hA : ∀ q, s.heap.size ≤ q → fA h0 s.heap.size q := fun _ h => Or.inr h
  intro n
  induction n with
  | zero => intro x1 h H locs ls hw; exact hw.elim
  | succ n ih =>
    intro x1 h H locs ls hw hl hR
    have hw : wb_Mod_anew_58 Z post v0 (lpF (wb_Mod_anew_58 Z post v0) n) (x1, h) := hw
    unfold wb_Mod_anew_58 at hw
    dsimp only at hw
    refine lv_iload_n hx hb d_Mod_anew_58 rfl (lv_at hl 1 rfl) ?_
    refine mx_aload_n (r := some v0) hx hb d_Mod_anew_59 rfl (lv_at hl 0 rfl) ?_
    obtain ⟨t1, hw⟩ := hw
    refine mx_get (ci := 8) (C := "NetJoinsModel") (T := F_Mod) (N := 33) hx hb hW hown hK.1 hR (a := v0) rfl t1 rfl i_Mod 29 0 (by decide) rfl kw_1164 (fun _ h9 => h9) d_Mod_anew_60 ?_
    refine lv_icmp_ge (tgt := 114) hx hb d_Mod_anew_63 (by decide) (fun c2 => ?_) (fun c2 => ?_)
    · have hw := hw.1 c2
      exact mx_vret hx hb hr hlocks hR hw d_Mod_anew_114
    · have hw := hw.2 c2
      refine mx_aload_n (r := some v0) hx hb d_Mod_anew_66 rfl (lv_at hl 0 rfl) ?_
      obtain ⟨t3, hw⟩ := hw
      refine mx_get (ci := 8) (C := "NetJoinsModel") (T := F_Mod) (N := 33) hx hb hW hown hK.1 hR (a := v0) rfl t3 rfl i_Mod 30 2 (by decide) rfl kw_1165 (fun _ h9 => h9) d_Mod_anew_67 ?_
      refine lv_iload_n hx hb d_Mod_anew_70 rfl (lv_at hl 1 rfl) ?_
      refine mx_aload_n (r := some v0) hx hb d_Mod_anew_71 rfl (lv_at hl 0 rfl) ?_
      refine lv_iload_n hx hb d_Mod_anew_72 rfl (lv_at hl 1 rfl) ?_
      obtain ⟨t6, hw⟩ := hw
      refine mx_calli (va_runV (b := v0) (As := [.int x1]) (rest := [.int x1, va_rf (gR h 830 v0)]) ⟨hx, hb, hml, hown, hW⟩ (mt_Mod_wasThere l D cs Z _ hw) (mx_cwV hW ok_Mod_wasThere kw_1308 rfl rfl ⟨Nat.le_of_ble_eq_true rfl, Nat.le_of_ble_eq_true rfl⟩) (mx_preV hK hZ hA hR (ci := 8) rfl t6) rfl rfl hl.1 rfl (lv_room (by simp [mx_rf_cat, cat_i, cat_l])) d_Mod_anew_73 ⟨Nat.le_of_ble_eq_true rfl, Nat.le_of_ble_eq_true rfl⟩) hR hA (fun r4 h5 H locs hw hR => ?_)
      try dsimp only at hw
      refine lv_if_ne (tgt := 83) hx hb d_Mod_anew_76 (by decide) (fun c7 => ?_) (fun c7 => ?_)
      · have hw := hw.1 c7
        refine lv_iconst (v := 0) hx hb d_Mod_anew_83 (by decide) ?_
        exact mn_Mod_anew_84 C post (lpF (wb_Mod_anew_58 Z post v0) n) ih x1 (0 : Int32) x1 (gR h 830 v0) _ _ _ _ hw (lv_sub hl [0, 1] rfl) hR
      · have hw := hw.2 c7
        refine lv_iconst (v := 1) hx hb d_Mod_anew_79 (by decide) ?_
        refine lv_goto (tgt := 84) hx hb d_Mod_anew_80 (by decide) ?_
        exact mn_Mod_anew_84 C post (lpF (wb_Mod_anew_58 Z post v0) n) ih x1 (1 : Int32) x1 (gR h 830 v0) _ _ _ _ hw (lv_sub hl [0, 1] rfl) hR
set_option maxHeartbeats 4000000 in
set_option maxRecDepth 100000 in
theorem mn_Mod_anew_31 {D : va_G} {cs : CS} {Z : Nat → Nat} {h0 : HS} {p : Program} {l : Launch} {e : Env} {s : State} {m : MethodId} {args : Array Value} {below : List Frame} {meth : Method} {c : Code} {v0 : Nat} (C : mC D cs Z h0 y_Mod_anew c_Mod_anew 2 none p s m args meth c) (post : HS → Prop) (K2 : Int32 × HS → Prop) (hK2 : ∀ (x1 : Int32) (h : HS) (H : Heap) (locs : List Loc) (ls : Array Slot), K2 (x1, h) → lv_has ls 2 [(0, va_rf (some v0)), (1, .int x1)] → mR D cs (fA h0 s.heap.size) h s.heap H locs → W p l e ({ frames := 7, cells := 0, slots := 0, locals := 222 } : Room) s m args below meth c H locs 0 0 (MQ below (va_Qv post (mB D cs h0 s.heap.size) (fA h0 s.heap.size)) args s 0 0 (fA h0 s.heap.size)) (F0 m 2 ls [])) : ∀ (x1 : Int32) (s0 : Int32) (s1 : Int32) (s2 : Option Nat) (h : HS) (H : Heap) (locs : List Loc) (ls : Array Slot), wj_Mod_anew_31 Z post K2 v0 x1 s0 s1 s2 h → lv_has ls 2 [(0, va_rf (some v0)), (1, .int x1)] → mR D cs (fA h0 s.heap.size) h s.heap H locs → W p l e ({ frames := 7, cells := 0, slots := 0, locals := 222 } : Room) s m args below meth c H locs 0 0 (MQ below (va_Qv post (mB D cs h0 s.heap.size) (fA h0 s.heap.size)) args s 0 0 (fA h0 s.heap.size)) (F0 m 31 ls [.int s0, .int s1, va_rf s2]) := by
  obtain ⟨hx, hb, hr, hml, hown, hW, hlocks, hnm, hK, hZ⟩ := id C
  have hown : s.vm.findClass "NetJoinsModel" = some m.cls := hown
  have hA : ∀ q, s.heap.size ≤ q → fA h0 s.heap.size q := fun _ h => Or.inr h
  intro x1 s0 s1 s2 h H locs ls hw hl hR
  unfold wj_Mod_anew_31 at hw
  obtain ⟨a1, ea1, t2, t2i, hw⟩ := hw
  refine mx_iast hx hb hK.1 hR (a := a1) ea1 t2 t2i d_Mod_anew_31 (fun H locs hR => ?_)
  obtain ⟨h3, eh3⟩ : ∃ z, z = sA h a1 s1.toNatClampNeg s0 := ⟨_, rfl⟩
  rw [← eh3] at hR
  have hw := hw h3 eh3
  obtain ⟨y4, ey4⟩ : ∃ y : Int32, y = x1 + (1 : Int32) := ⟨_, rfl⟩
  have hw := hw y4 ey4
  refine lv_iinc (v := y4) (lv' := [(1, .int y4), (0, va_rf (some v0))]) hx hb d_Mod_anew_32 hl (k := 1) rfl (by rw [ey4]; rfl) (by decide) rfl (fun ls hl => ?_)
  refine lv_goto (tgt := 2) hx hb d_Mod_anew_35 (by decide) ?_
  exact hK2 y4 _ _ _ _ hw (lv_sub hl [1, 0] rfl) hR
set_option maxHeartbeats 4000000 in
set_option maxRecDepth 100000 in
theorem mn_Mod_anew_2 {D : va_G} {cs : CS} {Z : Nat → Nat} {h0 : HS} {p : Program} {l : Launch} {e : Env} {s : State} {m : MethodId} {args : Array Value} {below : List Frame} {meth : Method} {c : Code} {v0 : Nat} (C : mC D cs Z h0 y_Mod_anew c_Mod_anew 2 none p s m args meth c) (post : HS → Prop) : ∀ (n : Nat) (x1 : Int32) (h : HS) (H : Heap) (locs : List Loc) (ls : Array Slot), lpF (wb_Mod_anew_2 Z post v0) n (x1, h) → lv_has ls 2 [(0, va_rf (some v0)), (1, .int x1)] → mR D cs (fA h0 s.heap.size) h s.heap H locs → W p l e ({ frames := 7, cells := 0, slots := 0, locals := 222 } : Room) s m args below meth c H locs 0 0 (MQ below (va_Qv post (mB D cs h0 s.heap.size) (fA h0 s.heap.size)) args s 0 0 (fA h0 s.heap.size)) (F0 m 2 ls []) := by
  obtain ⟨hx, hb, hr, hml, hown, hW, hlocks, hnm, hK, hZ⟩ := id C
  have hown : s.vm.findClass "NetJoinsModel" = some m.cls := hown
  have hA : ∀ q, s.heap.size ≤ q → fA h0 s.heap.size q := fun _ h => Or.inr h
  intro n
  induction n with
  | zero => intro x1 h H locs ls hw; exact hw.elim
  | succ n ih =>
    intro x1 h H locs ls hw hl hR
    have hw : wb_Mod_anew_2 Z post v0 (lpF (wb_Mod_anew_2 Z post v0) n) (x1, h) := hw
    unfold wb_Mod_anew_2 at hw
    dsimp only at hw
    refine lv_iload_n hx hb d_Mod_anew_2 rfl (lv_at hl 1 rfl) ?_
    refine lv_sipush (v := 960) hx hb d_Mod_anew_3 (by decide) ?_
    refine lv_icmp_ge (tgt := 38) hx hb d_Mod_anew_6 (by decide) (fun c1 => ?_) (fun c1 => ?_)
    · have hw := hw.1 c1
      refine mx_aload_n (r := some v0) hx hb d_Mod_anew_38 rfl (lv_at hl 0 rfl) ?_
      refine lv_iconst (v := 1) hx hb d_Mod_anew_39 (by decide) ?_
      obtain ⟨t2, hw⟩ := hw
      obtain ⟨z3, hw⟩ := hw
      refine mx_put (ci := 8) (C := "NetJoinsModel") (T := F_Mod) (N := 33) (v := .int (1 : Int32)) (h' := sI h 832 v0 (1 : Int32)) hx hb hW hown hK.1 hR (a := v0) rfl t2 rfl i_Mod t_Mod t_Mod_ok n_Mod 32 0 (by decide) rfl kw_1167 (fun _ h9 => h9) rfl (mx_z_n z3).1 (mx_z_n z3).2 d_Mod_anew_40 rfl (toE_sI (ci := 8) (k := 32) t2 rfl) (fun H locs hR => ?_)
      obtain ⟨h4, eh4⟩ : ∃ z, z = sI h 832 v0 (1 : Int32) := ⟨_, rfl⟩
      rw [← eh4] at hR
      have hw := hw h4 eh4
      refine mx_aload_n (r := some v0) hx hb d_Mod_anew_43 rfl (lv_at hl 0 rfl) ?_
      obtain ⟨t7, hw⟩ := hw
      refine mx_callv (va_runV (b := v0) (As := []) (rest := []) ⟨hx, hb, hml, hown, hW⟩ (mt_Mod_joinAll l D cs Z _ hw) (mx_cwV hW ok_Mod_joinAll kw_1252 rfl rfl ⟨Nat.le_of_ble_eq_true rfl, Nat.le_of_ble_eq_true rfl⟩) (mx_preV hK hZ hA hR (ci := 8) rfl t7) rfl rfl hl.1 rfl (lv_room (Nat.le_of_ble_eq_true rfl)) d_Mod_anew_44 ⟨Nat.le_of_ble_eq_true rfl, Nat.le_of_ble_eq_true rfl⟩) hR hA (fun h6 H locs hw hR => ?_)
      try dsimp only at hw
      refine mx_aload_n (r := some v0) hx hb d_Mod_anew_47 rfl (lv_at hl 0 rfl) ?_
      obtain ⟨t10, hw⟩ := hw
      refine mx_callv (va_runV (b := v0) (As := []) (rest := []) ⟨hx, hb, hml, hown, hW⟩ (mt_Mod_number l D cs Z _ hw) (mx_cwV hW ok_Mod_number kw_1304 rfl rfl ⟨Nat.le_of_ble_eq_true rfl, Nat.le_of_ble_eq_true rfl⟩) (mx_preV hK hZ hA hR (ci := 8) rfl t10) rfl rfl hl.1 rfl (lv_room (Nat.le_of_ble_eq_true rfl)) d_Mod_anew_48 ⟨Nat.le_of_ble_eq_true rfl, Nat.le_of_ble_eq_true rfl⟩) hR hA (fun h9 H locs hw hR => ?_)
      try dsimp only at hw
      refine mx_aload_n (r := some v0) hx hb d_Mod_anew_51 rfl (lv_at hl 0 rfl) ?_
      refine lv_iconst (v := 0) hx hb d_Mod_anew_52 (by decide) ?_
      obtain ⟨t11, hw⟩ := hw
      refine mx_put (ci := 8) (C := "NetJoinsModel") (T := F_Mod) (N := 33) (v := .int (0 : Int32)) (h' := sI h9 831 v0 (0 : Int32)) hx hb hW hown hK.1 hR (a := v0) rfl t11 rfl i_Mod t_Mod t_Mod_ok n_Mod 31 0 (by decide) rfl kw_1166 (fun _ h9 => h9) rfl rfl rfl d_Mod_anew_53 rfl (toE_sI (ci := 8) (k := 31) t11 rfl) (fun H locs hR => ?_)
      obtain ⟨h12, eh12⟩ : ∃ z, z = sI h9 831 v0 (0 : Int32) := ⟨_, rfl⟩
      rw [← eh12] at hR
      have hw := hw h12 eh12
      refine lv_iconst (v := 0) hx hb d_Mod_anew_56 (by decide) ?_
      refine lv_istore_n (i := 1) (lv' := [(1, .int (0 : Int32)), (0, va_rf (some v0))]) hx hb d_Mod_anew_57 rfl hl (by decide) rfl (fun ls hl => ?_)
      obtain ⟨n9, hw⟩ := hw
      exact mn_Mod_anew_58 C post n9 (0 : Int32) _ _ _ _ hw (lv_sub hl [1, 0] rfl) hR
    · have hw := hw.2 c1
      refine mx_aload_n (r := some v0) hx hb d_Mod_anew_9 rfl (lv_at hl 0 rfl) ?_
      obtain ⟨t13, hw⟩ := hw
      refine mx_get (ci := 8) (C := "NetJoinsModel") (T := F_Mod) (N := 33) hx hb hW hown hK.1 hR (a := v0) rfl t13 rfl i_Mod 28 2 (by decide) rfl kw_1163 (fun _ h9 => h9) d_Mod_anew_10 ?_
      refine lv_iload_n hx hb d_Mod_anew_13 rfl (lv_at hl 1 rfl) ?_
      refine mx_aload_n (r := some v0) hx hb d_Mod_anew_14 rfl (lv_at hl 0 rfl) ?_
      obtain ⟨t14, hw⟩ := hw
      refine mx_get (ci := 8) (C := "NetJoinsModel") (T := F_Mod) (N := 33) hx hb hW hown hK.1 hR (a := v0) rfl t14 rfl i_Mod 32 0 (by decide) rfl kw_1167 (fun _ h9 => h9) d_Mod_anew_15 ?_
      refine lv_if_eq (tgt := 30) hx hb d_Mod_anew_18 (by decide) (fun c15 => ?_) (fun c15 => ?_)
      · have hw := hw.1 c15
        refine lv_iconst (v := (-1)) hx hb d_Mod_anew_30 (by decide) ?_
        exact mn_Mod_anew_31 C post (lpF (wb_Mod_anew_2 Z post v0) n) ih x1 (-1 : Int32) x1 (gR h 828 v0) _ _ _ _ hw (lv_sub hl [0, 1] rfl) hR
      · have hw := hw.2 c15
        refine mx_aload_n (r := some v0) hx hb d_Mod_anew_21 rfl (lv_at hl 0 rfl) ?_
        obtain ⟨t16, hw⟩ := hw
        refine mx_get (ci := 8) (C := "NetJoinsModel") (T := F_Mod) (N := 33) hx hb hW hown hK.1 hR (a := v0) rfl t16 rfl i_Mod 27 2 (by decide) rfl kw_1162 (fun _ h9 => h9) d_Mod_anew_22 ?_
        refine lv_iload_n hx hb d_Mod_anew_25 rfl (lv_at hl 1 rfl) ?_
        obtain ⟨a17, ea17, t18, t18i, hw⟩ := hw
        refine mx_iald hx hb hK.1 hR (a := a17) ea17 t18 t18i d_Mod_anew_26 ?_
        refine lv_goto (tgt := 31) hx hb d_Mod_anew_27 (by decide) ?_
        exact mn_Mod_anew_31 C post (lpF (wb_Mod_anew_2 Z post v0) n) ih x1 (gA h a17 x1.toNatClampNeg) x1 (gR h 828 v0) _ _ _ _ hw (lv_sub hl [0, 1] rfl) hR
set_option maxHeartbeats 4000000 in
set_option maxRecDepth 100000 in
theorem mt_Mod_anew (l : Launch) (D : va_G) (cs : CS) (Z : Nat → Nat) (sz : Nat) {post : HS → Prop} {h : HS} {v0 : Nat}  (hw : wp_Mod_anew Z post h v0 ) : Met l y_Mod_anew (Cond.code y_Mod_anew c_Mod_anew 2 none :: WA) ({ frames := 7, cells := 0, slots := 0, locals := 222 } : Room) (mPc D cs Z h sz [va_rf (some v0)]) (va_Qv post (mB D cs h sz) (fA h sz)) 0 0 (fA h sz) := by
  refine mx_met (fun sz => va_Qv post (mB D cs h sz) (fA h sz)) (by decide) (by simp [lg_sl, mx_rf_cat, cat_i, cat_l]) ?_
  intro p e s m args below meth c C hR ls hl
  have hl : lv_has ls 2 [(0, va_rf (some v0))] := hl
  obtain ⟨hx, hb, hr, hml, hown, hW, hlocks, hnm, hK, hZ⟩ := id C
  have hown : s.vm.findClass "NetJoinsModel" = some m.cls := hown
  have hA : ∀ q, s.heap.size ≤ q → fA h s.heap.size q := fun _ h => Or.inr h
  unfold wp_Mod_anew at hw
  refine lv_iconst (v := 0) hx hb d_Mod_anew_0 (by decide) ?_
  refine lv_istore_n (i := 1) (lv' := [(1, .int (0 : Int32)), (0, va_rf (some v0))]) hx hb d_Mod_anew_1 rfl hl (by decide) rfl (fun ls hl => ?_)
  obtain ⟨n9, hw⟩ := hw
  exact mn_Mod_anew_2 C post n9 (0 : Int32) _ _ _ _ hw (lv_sub hl [1, 0] rfl) hR
set_option maxHeartbeats 4000000 in
set_option maxRecDepth 100000 in
theorem mn_Mod_sheet_115 {D : va_G} {cs : CS} {Z : Nat → Nat} {h0 : HS} {p : Program} {l : Launch} {e : Env} {s : State} {m : MethodId} {args : Array Value} {below : List Frame} {meth : Method} {c : Code} {v0 : Nat} (C : mC D cs Z h0 y_Mod_sheet c_Mod_sheet 4 (some .int) p s m args meth c) (post : Int32 → HS → Prop) : ∀ (s0 : Int32) (s1 : Int32) (s2 : Option Nat) (h : HS) (H : Heap) (locs : List Loc) (ls : Array Slot), wj_Mod_sheet_115 Z post v0 s0 s1 s2 h → lv_has ls 4 [(0, va_rf (some v0))] → mR D cs (fA h0 s.heap.size) h s.heap H locs → W p l e ({ frames := 8, cells := 0, slots := 0, locals := 243 } : Room) s m args below meth c H locs 0 0 (MQ below (va_Qi post (mB D cs h0 s.heap.size) (fA h0 s.heap.size)) args s 0 0 (fA h0 s.heap.size)) (F0 m 115 ls [.int s0, .int s1, va_rf s2]) := by
  obtain ⟨hx, hb, hr, hml, hown, hW, hlocks, hnm, hK, hZ⟩ := id C
  have hown : s.vm.findClass "NetJoinsModel" = some m.cls := hown
  have hA : ∀ q, s.heap.size ≤ q → fA h0 s.heap.size q := fun _ h => Or.inr h
  intro s0 s1 s2 h H locs ls hw hl hR
  unfold wj_Mod_sheet_115 at hw
  obtain ⟨a1, ea1, t2, t2i, hw⟩ := hw
  refine mx_iast hx hb hK.1 hR (a := a1) ea1 t2 t2i d_Mod_sheet_115 (fun H locs hR => ?_)
  obtain ⟨h3, eh3⟩ : ∃ z, z = sA h a1 s1.toNatClampNeg s0 := ⟨_, rfl⟩
  rw [← eh3] at hR
  have hw := hw h3 eh3
  refine mx_aload_n (r := some v0) hx hb d_Mod_sheet_116 rfl (lv_at hl 0 rfl) ?_
  refine lv_dup hx hb d_Mod_sheet_117 (mx_rf_cat _) ?_
  obtain ⟨t4, hw⟩ := hw
  refine mx_get (ci := 8) (C := "NetJoinsModel") (T := F_Mod) (N := 33) hx hb hW hown hK.1 hR (a := v0) rfl t4 rfl i_Mod 1 0 (by decide) rfl kw_1136 (fun _ h9 => h9) d_Mod_sheet_118 ?_
  refine lv_iconst (v := 1) hx hb d_Mod_sheet_121 (by decide) ?_
  refine lv_iadd hx hb d_Mod_sheet_122 ?_
  obtain ⟨t5, hw⟩ := hw
  refine mx_put (ci := 8) (C := "NetJoinsModel") (T := F_Mod) (N := 33) (v := .int ((gI h3 801 v0) + (1 : Int32))) (h' := sI h3 801 v0 ((gI h3 801 v0) + (1 : Int32))) hx hb hW hown hK.1 hR (a := v0) rfl t5 rfl i_Mod t_Mod t_Mod_ok n_Mod 1 0 (by decide) rfl kw_1136 (fun _ h9 => h9) rfl rfl rfl d_Mod_sheet_123 rfl (toE_sI (ci := 8) (k := 1) t5 rfl) (fun H locs hR => ?_)
  obtain ⟨h6, eh6⟩ : ∃ z, z = sI h3 801 v0 ((gI h3 801 v0) + (1 : Int32)) := ⟨_, rfl⟩
  rw [← eh6] at hR
  have hw := hw h6 eh6
  refine mx_aload_n (r := some v0) hx hb d_Mod_sheet_126 rfl (lv_at hl 0 rfl) ?_
  obtain ⟨t9, hw⟩ := hw
  refine mx_callv (va_runV (b := v0) (As := []) (rest := []) ⟨hx, hb, hml, hown, hW⟩ (mt_Mod_anew l D cs Z _ hw) (mx_cwV hW ok_Mod_anew kw_1248 rfl rfl ⟨Nat.le_of_ble_eq_true rfl, Nat.le_of_ble_eq_true rfl⟩) (mx_preV hK hZ hA hR (ci := 8) rfl t9) rfl rfl hl.1 rfl (lv_room (Nat.le_of_ble_eq_true rfl)) d_Mod_sheet_127 ⟨Nat.le_of_ble_eq_true rfl, Nat.le_of_ble_eq_true rfl⟩) hR hA (fun h8 H locs hw hR => ?_)
  try dsimp only at hw
  refine mx_aload_n (r := some v0) hx hb d_Mod_sheet_130 rfl (lv_at hl 0 rfl) ?_
  obtain ⟨t10, hw⟩ := hw
  refine mx_get (ci := 8) (C := "NetJoinsModel") (T := F_Mod) (N := 33) hx hb hW hown hK.1 hR (a := v0) rfl t10 rfl i_Mod 1 0 (by decide) rfl kw_1136 (fun _ h9 => h9) d_Mod_sheet_131 ?_
  refine lv_iconst (v := 1) hx hb d_Mod_sheet_134 (by decide) ?_
  refine lv_isub hx hb d_Mod_sheet_135 ?_
  exact mx_iret hx hb hr hlocks hR hw d_Mod_sheet_136
set_option maxHeartbeats 4000000 in
set_option maxRecDepth 100000 in
theorem mn_Mod_sheet_61 {D : va_G} {cs : CS} {Z : Nat → Nat} {h0 : HS} {p : Program} {l : Launch} {e : Env} {s : State} {m : MethodId} {args : Array Value} {below : List Frame} {meth : Method} {c : Code} {v0 : Nat} (C : mC D cs Z h0 y_Mod_sheet c_Mod_sheet 4 (some .int) p s m args meth c) (post : Int32 → HS → Prop) : ∀ (x1 : Int32) (x2 : Int32) (s0 : Int32) (s1 : Option Nat) (h : HS) (H : Heap) (locs : List Loc) (ls : Array Slot), wj_Mod_sheet_61 Z post v0 x1 x2 s0 s1 h → lv_has ls 4 [(0, va_rf (some v0)), (1, .int x1), (2, .int x2)] → mR D cs (fA h0 s.heap.size) h s.heap H locs → W p l e ({ frames := 8, cells := 0, slots := 0, locals := 243 } : Room) s m args below meth c H locs 0 0 (MQ below (va_Qi post (mB D cs h0 s.heap.size) (fA h0 s.heap.size)) args s 0 0 (fA h0 s.heap.size)) (F0 m 61 ls [.int s0, va_rf s1]) := by
  obtain ⟨hx, hb, hr, hml, hown, hW, hlocks, hnm, hK, hZ⟩ := id C
  have hown : s.vm.findClass "NetJoinsModel" = some m.cls := hown
  have hA : ∀ q, s.heap.size ≤ q → fA h0 s.heap.size q := fun _ h => Or.inr h
  intro x1 x2 s0 s1 h H locs ls hw hl hR
  unfold wj_Mod_sheet_61 at hw
  obtain ⟨a1, ea1, t2, hw⟩ := hw
  refine mx_put (ci := 8) (C := "NetJoinsModel") (T := F_Mod) (N := 33) (v := .int s0) (h' := sI h 800 a1 s0) hx hb hW hown hK.1 hR (a := a1) ea1 t2 rfl i_Mod t_Mod t_Mod_ok n_Mod 0 0 (by decide) rfl kw_1135 (fun _ h9 => h9) rfl rfl rfl d_Mod_sheet_61 rfl (toE_sI (ci := 8) (k := 0) t2 rfl) (fun H locs hR => ?_)
  obtain ⟨h3, eh3⟩ : ∃ z, z = sI h 800 a1 s0 := ⟨_, rfl⟩
  rw [← eh3] at hR
  have hw := hw h3 eh3
  refine mx_aload_n (r := some v0) hx hb d_Mod_sheet_64 rfl (lv_at hl 0 rfl) ?_
  obtain ⟨t4, hw⟩ := hw
  refine mx_get (ci := 8) (C := "NetJoinsModel") (T := F_Mod) (N := 33) hx hb hW hown hK.1 hR (a := v0) rfl t4 rfl i_Mod 0 0 (by decide) rfl kw_1135 (fun _ h9 => h9) d_Mod_sheet_65 ?_
  refine lv_if_eq (tgt := 73) hx hb d_Mod_sheet_68 (by decide) (fun c5 => ?_) (fun c5 => ?_)
  · have hw := hw.1 c5
    refine mx_aload_n (r := some v0) hx hb d_Mod_sheet_73 rfl (lv_at hl 0 rfl) ?_
    obtain ⟨t6, hw⟩ := hw
    refine mx_get (ci := 8) (C := "NetJoinsModel") (T := F_Mod) (N := 33) hx hb hW hown hK.1 hR (a := v0) rfl t6 rfl i_Mod 1 0 (by decide) rfl kw_1136 (fun _ h9 => h9) d_Mod_sheet_74 ?_
    refine lv_bipush (v := 16) hx hb d_Mod_sheet_77 (by decide) ?_
    refine lv_icmp_ne (tgt := 84) hx hb d_Mod_sheet_79 (by decide) (fun c7 => ?_) (fun c7 => ?_)
    · have hw := hw.1 c7
      refine mx_aload_n (r := some v0) hx hb d_Mod_sheet_84 rfl (lv_at hl 0 rfl) ?_
      obtain ⟨t8, hw⟩ := hw
      refine mx_get (ci := 8) (C := "NetJoinsModel") (T := F_Mod) (N := 33) hx hb hW hown hK.1 hR (a := v0) rfl t8 rfl i_Mod 2 2 (by decide) rfl kw_1137 (fun _ h9 => h9) d_Mod_sheet_85 ?_
      refine mx_aload_n (r := some v0) hx hb d_Mod_sheet_88 rfl (lv_at hl 0 rfl) ?_
      obtain ⟨t9, hw⟩ := hw
      refine mx_get (ci := 8) (C := "NetJoinsModel") (T := F_Mod) (N := 33) hx hb hW hown hK.1 hR (a := v0) rfl t9 rfl i_Mod 1 0 (by decide) rfl kw_1136 (fun _ h9 => h9) d_Mod_sheet_89 ?_
      refine lv_iload_n hx hb d_Mod_sheet_92 rfl (lv_at hl 1 rfl) ?_
      obtain ⟨a10, ea10, t11, t11i, hw⟩ := hw
      refine mx_iast hx hb hK.1 hR (a := a10) ea10 t11 t11i d_Mod_sheet_93 (fun H locs hR => ?_)
      obtain ⟨h12, eh12⟩ : ∃ z, z = sA h3 a10 (gI h3 801 v0).toNatClampNeg x1 := ⟨_, rfl⟩
      rw [← eh12] at hR
      have hw := hw h12 eh12
      refine mx_aload_n (r := some v0) hx hb d_Mod_sheet_94 rfl (lv_at hl 0 rfl) ?_
      obtain ⟨t13, hw⟩ := hw
      refine mx_get (ci := 8) (C := "NetJoinsModel") (T := F_Mod) (N := 33) hx hb hW hown hK.1 hR (a := v0) rfl t13 rfl i_Mod 3 2 (by decide) rfl kw_1138 (fun _ h9 => h9) d_Mod_sheet_95 ?_
      refine mx_aload_n (r := some v0) hx hb d_Mod_sheet_98 rfl (lv_at hl 0 rfl) ?_
      obtain ⟨t14, hw⟩ := hw
      refine mx_get (ci := 8) (C := "NetJoinsModel") (T := F_Mod) (N := 33) hx hb hW hown hK.1 hR (a := v0) rfl t14 rfl i_Mod 1 0 (by decide) rfl kw_1136 (fun _ h9 => h9) d_Mod_sheet_99 ?_
      refine lv_iload_n hx hb d_Mod_sheet_102 rfl (lv_at hl 2 rfl) ?_
      refine lv_iconst (v := (-1)) hx hb d_Mod_sheet_103 (by decide) ?_
      refine lv_icmp_ne (tgt := 114) hx hb d_Mod_sheet_104 (by decide) (fun c15 => ?_) (fun c15 => ?_)
      · have hw := hw.1 c15
        refine lv_iload_n hx hb d_Mod_sheet_114 rfl (lv_at hl 2 rfl) ?_
        exact mn_Mod_sheet_115 C post x2 (gI h12 801 v0) (gR h12 803 v0) _ _ _ _ hw (lv_sub hl [0] rfl) hR
      · have hw := hw.2 c15
        refine mx_aload_n (r := some v0) hx hb d_Mod_sheet_107 rfl (lv_at hl 0 rfl) ?_
        obtain ⟨t16, hw⟩ := hw
        refine mx_get (ci := 8) (C := "NetJoinsModel") (T := F_Mod) (N := 33) hx hb hW hown hK.1 hR (a := v0) rfl t16 rfl i_Mod 1 0 (by decide) rfl kw_1136 (fun _ h9 => h9) d_Mod_sheet_108 ?_
        refine lv_goto (tgt := 115) hx hb d_Mod_sheet_111 (by decide) ?_
        exact mn_Mod_sheet_115 C post (gI h12 801 v0) (gI h12 801 v0) (gR h12 803 v0) _ _ _ _ hw (lv_sub hl [0] rfl) hR
    · have hw := hw.2 c7
      refine lv_iconst (v := (-1)) hx hb d_Mod_sheet_82 (by decide) ?_
      exact mx_iret hx hb hr hlocks hR hw d_Mod_sheet_83
  · have hw := hw.2 c5
    refine lv_iconst (v := 0) hx hb d_Mod_sheet_71 (by decide) ?_
    exact mx_iret hx hb hr hlocks hR hw d_Mod_sheet_72
set_option maxHeartbeats 4000000 in
set_option maxRecDepth 100000 in
theorem mn_Mod_sheet_60 {D : va_G} {cs : CS} {Z : Nat → Nat} {h0 : HS} {p : Program} {l : Launch} {e : Env} {s : State} {m : MethodId} {args : Array Value} {below : List Frame} {meth : Method} {c : Code} {v0 : Nat} (C : mC D cs Z h0 y_Mod_sheet c_Mod_sheet 4 (some .int) p s m args meth c) (post : Int32 → HS → Prop) : ∀ (x1 : Int32) (x2 : Int32) (s0 : Option Nat) (h : HS) (H : Heap) (locs : List Loc) (ls : Array Slot), wj_Mod_sheet_60 Z post v0 x1 x2 s0 h → lv_has ls 4 [(0, va_rf (some v0)), (1, .int x1), (2, .int x2)] → mR D cs (fA h0 s.heap.size) h s.heap H locs → W p l e ({ frames := 8, cells := 0, slots := 0, locals := 243 } : Room) s m args below meth c H locs 0 0 (MQ below (va_Qi post (mB D cs h0 s.heap.size) (fA h0 s.heap.size)) args s 0 0 (fA h0 s.heap.size)) (F0 m 60 ls [va_rf s0]) := by
  obtain ⟨hx, hb, hr, hml, hown, hW, hlocks, hnm, hK, hZ⟩ := id C
  have hown : s.vm.findClass "NetJoinsModel" = some m.cls := hown
  have hA : ∀ q, s.heap.size ≤ q → fA h0 s.heap.size q := fun _ h => Or.inr h
  intro x1 x2 s0 h H locs ls hw hl hR
  unfold wj_Mod_sheet_60 at hw
  refine lv_iconst (v := 0) hx hb d_Mod_sheet_60 (by decide) ?_
  exact mn_Mod_sheet_61 C post x1 x2 (0 : Int32) s0 _ _ _ _ hw (lv_sub hl [0, 1, 2] rfl) hR
set_option maxHeartbeats 4000000 in
set_option maxRecDepth 100000 in
theorem mn_Mod_sheet_31 {D : va_G} {cs : CS} {Z : Nat → Nat} {h0 : HS} {p : Program} {l : Launch} {e : Env} {s : State} {m : MethodId} {args : Array Value} {below : List Frame} {meth : Method} {c : Code} {v0 : Nat} (C : mC D cs Z h0 y_Mod_sheet c_Mod_sheet 4 (some .int) p s m args meth c) (post : Int32 → HS → Prop) : ∀ (x1 : Int32) (x2 : Int32) (s0 : Int32) (h : HS) (H : Heap) (locs : List Loc) (ls : Array Slot), wj_Mod_sheet_31 Z post v0 x1 x2 s0 h → lv_has ls 4 [(0, va_rf (some v0)), (1, .int x1), (2, .int x2)] → mR D cs (fA h0 s.heap.size) h s.heap H locs → W p l e ({ frames := 8, cells := 0, slots := 0, locals := 243 } : Room) s m args below meth c H locs 0 0 (MQ below (va_Qi post (mB D cs h0 s.heap.size) (fA h0 s.heap.size)) args s 0 0 (fA h0 s.heap.size)) (F0 m 31 ls [.int s0]) := by
  obtain ⟨hx, hb, hr, hml, hown, hW, hlocks, hnm, hK, hZ⟩ := id C
  have hown : s.vm.findClass "NetJoinsModel" = some m.cls := hown
  have hA : ∀ q, s.heap.size ≤ q → fA h0 s.heap.size q := fun _ h => Or.inr h
  intro x1 x2 s0 h H locs ls hw hl hR
  unfold wj_Mod_sheet_31 at hw
  refine lv_istore_n (i := 3) (lv' := [(3, .int s0), (0, va_rf (some v0)), (1, .int x1), (2, .int x2)]) hx hb d_Mod_sheet_31 rfl hl (by decide) rfl (fun ls hl => ?_)
  refine mx_aload_n (r := some v0) hx hb d_Mod_sheet_32 rfl (lv_at hl 1 rfl) ?_
  refine lv_iload_n hx hb d_Mod_sheet_33 rfl (lv_at hl 0 rfl) ?_
  refine lv_if_ne (tgt := 41) hx hb d_Mod_sheet_34 (by decide) (fun c1 => ?_) (fun c1 => ?_)
  · have hw := hw.1 c1
    refine lv_iload_n hx hb d_Mod_sheet_41 rfl (lv_at hl 3 rfl) ?_
    refine lv_iconst (v := (-1)) hx hb d_Mod_sheet_42 (by decide) ?_
    refine lv_icmp_eq (tgt := 60) hx hb d_Mod_sheet_43 (by decide) (fun c2 => ?_) (fun c2 => ?_)
    · have hw := hw.1 c2
      exact mn_Mod_sheet_60 C post x1 x2 (some v0) _ _ _ _ hw (lv_sub hl [1, 2, 3] rfl) hR
    · have hw := hw.2 c2
      refine mx_aload_n (r := some v0) hx hb d_Mod_sheet_46 rfl (lv_at hl 1 rfl) ?_
      obtain ⟨t3, hw⟩ := hw
      refine mx_get (ci := 8) (C := "NetJoinsModel") (T := F_Mod) (N := 33) hx hb hW hown hK.1 hR (a := v0) rfl t3 rfl i_Mod 3 2 (by decide) rfl kw_1138 (fun _ h9 => h9) d_Mod_sheet_47 ?_
      refine lv_iload_n hx hb d_Mod_sheet_50 rfl (lv_at hl 3 rfl) ?_
      obtain ⟨a4, ea4, t5, t5i, hw⟩ := hw
      refine mx_iald hx hb hK.1 hR (a := a4) ea4 t5 t5i d_Mod_sheet_51 ?_
      refine lv_iload_n hx hb d_Mod_sheet_52 rfl (lv_at hl 3 rfl) ?_
      refine lv_icmp_eq (tgt := 60) hx hb d_Mod_sheet_53 (by decide) (fun c6 => ?_) (fun c6 => ?_)
      · have hw := hw.1 c6
        exact mn_Mod_sheet_60 C post x1 x2 (some v0) _ _ _ _ hw (lv_sub hl [1, 2, 3] rfl) hR
      · have hw := hw.2 c6
        refine lv_iconst (v := 2) hx hb d_Mod_sheet_56 (by decide) ?_
        refine lv_goto (tgt := 61) hx hb d_Mod_sheet_57 (by decide) ?_
        exact mn_Mod_sheet_61 C post x1 x2 (2 : Int32) (some v0) _ _ _ _ hw (lv_sub hl [1, 2, 3] rfl) hR
  · have hw := hw.2 c1
    refine lv_iconst (v := 1) hx hb d_Mod_sheet_37 (by decide) ?_
    refine lv_goto (tgt := 61) hx hb d_Mod_sheet_38 (by decide) ?_
    exact mn_Mod_sheet_61 C post x1 x2 (1 : Int32) (some v0) _ _ _ _ hw (lv_sub hl [1, 2, 3] rfl) hR
set_option maxHeartbeats 4000000 in
set_option maxRecDepth 100000 in
theorem mn_Mod_sheet_26 {D : va_G} {cs : CS} {Z : Nat → Nat} {h0 : HS} {p : Program} {l : Launch} {e : Env} {s : State} {m : MethodId} {args : Array Value} {below : List Frame} {meth : Method} {c : Code} {v0 : Nat} (C : mC D cs Z h0 y_Mod_sheet c_Mod_sheet 4 (some .int) p s m args meth c) (post : Int32 → HS → Prop) : ∀ (x1 : Int32) (x2 : Int32) (h : HS) (H : Heap) (locs : List Loc) (ls : Array Slot), wj_Mod_sheet_26 Z post v0 x1 x2 h → lv_has ls 4 [(0, va_rf (some v0)), (1, .int x1), (2, .int x2)] → mR D cs (fA h0 s.heap.size) h s.heap H locs → W p l e ({ frames := 8, cells := 0, slots := 0, locals := 243 } : Room) s m args below meth c H locs 0 0 (MQ below (va_Qi post (mB D cs h0 s.heap.size) (fA h0 s.heap.size)) args s 0 0 (fA h0 s.heap.size)) (F0 m 26 ls []) := by
  obtain ⟨hx, hb, hr, hml, hown, hW, hlocks, hnm, hK, hZ⟩ := id C
  have hown : s.vm.findClass "NetJoinsModel" = some m.cls := hown
  have hA : ∀ q, s.heap.size ≤ q → fA h0 s.heap.size q := fun _ h => Or.inr h
  intro x1 x2 h H locs ls hw hl hR
  unfold wj_Mod_sheet_26 at hw
  refine lv_iconst (v := 1) hx hb d_Mod_sheet_26 (by decide) ?_
  refine lv_goto (tgt := 31) hx hb d_Mod_sheet_27 (by decide) ?_
  exact mn_Mod_sheet_31 C post x1 x2 (1 : Int32) _ _ _ _ hw (lv_sub hl [0, 1, 2] rfl) hR
set_option maxHeartbeats 4000000 in
set_option maxRecDepth 100000 in
theorem mn_Mod_sheet_30 {D : va_G} {cs : CS} {Z : Nat → Nat} {h0 : HS} {p : Program} {l : Launch} {e : Env} {s : State} {m : MethodId} {args : Array Value} {below : List Frame} {meth : Method} {c : Code} {v0 : Nat} (C : mC D cs Z h0 y_Mod_sheet c_Mod_sheet 4 (some .int) p s m args meth c) (post : Int32 → HS → Prop) : ∀ (x1 : Int32) (x2 : Int32) (h : HS) (H : Heap) (locs : List Loc) (ls : Array Slot), wj_Mod_sheet_30 Z post v0 x1 x2 h → lv_has ls 4 [(0, va_rf (some v0)), (1, .int x1), (2, .int x2)] → mR D cs (fA h0 s.heap.size) h s.heap H locs → W p l e ({ frames := 8, cells := 0, slots := 0, locals := 243 } : Room) s m args below meth c H locs 0 0 (MQ below (va_Qi post (mB D cs h0 s.heap.size) (fA h0 s.heap.size)) args s 0 0 (fA h0 s.heap.size)) (F0 m 30 ls []) := by
  obtain ⟨hx, hb, hr, hml, hown, hW, hlocks, hnm, hK, hZ⟩ := id C
  have hown : s.vm.findClass "NetJoinsModel" = some m.cls := hown
  have hA : ∀ q, s.heap.size ≤ q → fA h0 s.heap.size q := fun _ h => Or.inr h
  intro x1 x2 h H locs ls hw hl hR
  unfold wj_Mod_sheet_30 at hw
  refine lv_iconst (v := 0) hx hb d_Mod_sheet_30 (by decide) ?_
  exact mn_Mod_sheet_31 C post x1 x2 (0 : Int32) _ _ _ _ hw (lv_sub hl [0, 1, 2] rfl) hR
set_option maxHeartbeats 4000000 in
set_option maxRecDepth 100000 in
theorem mn_Mod_sheet_13 {D : va_G} {cs : CS} {Z : Nat → Nat} {h0 : HS} {p : Program} {l : Launch} {e : Env} {s : State} {m : MethodId} {args : Array Value} {below : List Frame} {meth : Method} {c : Code} {v0 : Nat} (C : mC D cs Z h0 y_Mod_sheet c_Mod_sheet 4 (some .int) p s m args meth c) (post : Int32 → HS → Prop) : ∀ (x1 : Int32) (x2 : Int32) (h : HS) (H : Heap) (locs : List Loc) (ls : Array Slot), wj_Mod_sheet_13 Z post v0 x1 x2 h → lv_has ls 4 [(0, va_rf (some v0)), (1, .int x1), (2, .int x2)] → mR D cs (fA h0 s.heap.size) h s.heap H locs → W p l e ({ frames := 8, cells := 0, slots := 0, locals := 243 } : Room) s m args below meth c H locs 0 0 (MQ below (va_Qi post (mB D cs h0 s.heap.size) (fA h0 s.heap.size)) args s 0 0 (fA h0 s.heap.size)) (F0 m 13 ls []) := by
  obtain ⟨hx, hb, hr, hml, hown, hW, hlocks, hnm, hK, hZ⟩ := id C
  have hown : s.vm.findClass "NetJoinsModel" = some m.cls := hown
  have hA : ∀ q, s.heap.size ≤ q → fA h0 s.heap.size q := fun _ h => Or.inr h
  intro x1 x2 h H locs ls hw hl hR
  unfold wj_Mod_sheet_13 at hw
  refine lv_iload_n hx hb d_Mod_sheet_13 rfl (lv_at hl 2 rfl) ?_
  refine lv_iconst (v := (-1)) hx hb d_Mod_sheet_14 (by decide) ?_
  refine lv_icmp_eq (tgt := 26) hx hb d_Mod_sheet_15 (by decide) (fun c1 => ?_) (fun c1 => ?_)
  · have hw := hw.1 c1
    exact mn_Mod_sheet_26 C post x1 x2 _ _ _ _ hw (lv_sub hl [0, 1, 2] rfl) hR
  · have hw := hw.2 c1
    refine mx_aload_n (r := some v0) hx hb d_Mod_sheet_18 rfl (lv_at hl 0 rfl) ?_
    refine lv_iload_n hx hb d_Mod_sheet_19 rfl (lv_at hl 2 rfl) ?_
    obtain ⟨t4, hw⟩ := hw
    refine mx_calli (va_runV (b := v0) (As := [.int x2]) (rest := []) ⟨hx, hb, hml, hown, hW⟩ (mt_Mod_isSheet l D cs Z _ hw) (mx_cwV hW ok_Mod_isSheet kw_1244 rfl rfl ⟨Nat.le_of_ble_eq_true rfl, Nat.le_of_ble_eq_true rfl⟩) (mx_preV hK hZ hA hR (ci := 8) rfl t4) rfl rfl hl.1 rfl (lv_room (Nat.le_of_ble_eq_true rfl)) d_Mod_sheet_20 ⟨Nat.le_of_ble_eq_true rfl, Nat.le_of_ble_eq_true rfl⟩) hR hA (fun r2 h3 H locs hw hR => ?_)
    try dsimp only at hw
    refine lv_if_eq (tgt := 30) hx hb d_Mod_sheet_23 (by decide) (fun c5 => ?_) (fun c5 => ?_)
    · have hw := hw.1 c5
      exact mn_Mod_sheet_30 C post x1 x2 _ _ _ _ hw (lv_sub hl [0, 1, 2] rfl) hR
    · have hw := hw.2 c5
      exact mn_Mod_sheet_26 C post x1 x2 _ _ _ _ hw (lv_sub hl [0, 1, 2] rfl) hR
set_option maxHeartbeats 4000000 in
set_option maxRecDepth 100000 in
theorem mt_Mod_sheet (l : Launch) (D : va_G) (cs : CS) (Z : Nat → Nat) (sz : Nat) {post : Int32 → HS → Prop} {h : HS} {v0 : Nat} {x1 : Int32} {x2 : Int32} (hw : wp_Mod_sheet Z post h v0 x1 x2) : Met l y_Mod_sheet (Cond.code y_Mod_sheet c_Mod_sheet 4 (some .int) :: WA) ({ frames := 8, cells := 0, slots := 0, locals := 243 } : Room) (mPc D cs Z h sz [va_rf (some v0), .int x1, .int x2]) (va_Qi post (mB D cs h sz) (fA h sz)) 0 0 (fA h sz) := by
  refine mx_met (fun sz => va_Qi post (mB D cs h sz) (fA h sz)) (by decide) (by simp [lg_sl, mx_rf_cat, cat_i, cat_l]) ?_
  intro p e s m args below meth c C hR ls hl
  have hl : lv_has ls 4 [(0, va_rf (some v0)), (1, .int x1), (2, .int x2)] := hl
  obtain ⟨hx, hb, hr, hml, hown, hW, hlocks, hnm, hK, hZ⟩ := id C
  have hown : s.vm.findClass "NetJoinsModel" = some m.cls := hown
  have hA : ∀ q, s.heap.size ≤ q → fA h s.heap.size q := fun _ h => Or.inr h
  unfold wp_Mod_sheet at hw
  refine lv_iload_n hx hb d_Mod_sheet_0 rfl (lv_at hl 1 rfl) ?_
  refine lv_iconst (v := (-1)) hx hb d_Mod_sheet_1 (by decide) ?_
  refine lv_icmp_eq (tgt := 13) hx hb d_Mod_sheet_2 (by decide) (fun c1 => ?_) (fun c1 => ?_)
  · have hw := hw.1 c1
    exact mn_Mod_sheet_13 C post x1 x2 _ _ _ _ hw (lv_sub hl [0, 1, 2] rfl) hR
  · have hw := hw.2 c1
    refine mx_aload_n (r := some v0) hx hb d_Mod_sheet_5 rfl (lv_at hl 0 rfl) ?_
    refine lv_iload_n hx hb d_Mod_sheet_6 rfl (lv_at hl 1 rfl) ?_
    obtain ⟨t4, hw⟩ := hw
    refine mx_calli (va_runV (b := v0) (As := [.int x1]) (rest := []) ⟨hx, hb, hml, hown, hW⟩ (mt_Mod_isSheet l D cs Z _ hw) (mx_cwV hW ok_Mod_isSheet kw_1244 rfl rfl ⟨Nat.le_of_ble_eq_true rfl, Nat.le_of_ble_eq_true rfl⟩) (mx_preV hK hZ hA hR (ci := 8) rfl t4) rfl rfl hl.1 rfl (lv_room (Nat.le_of_ble_eq_true rfl)) d_Mod_sheet_7 ⟨Nat.le_of_ble_eq_true rfl, Nat.le_of_ble_eq_true rfl⟩) hR hA (fun r2 h3 H locs hw hR => ?_)
    try dsimp only at hw
    refine lv_if_eq (tgt := 30) hx hb d_Mod_sheet_10 (by decide) (fun c5 => ?_) (fun c5 => ?_)
    · have hw := hw.1 c5
      exact mn_Mod_sheet_30 C post x1 x2 _ _ _ _ hw (lv_sub hl [0, 1, 2] rfl) hR
    · have hw := hw.2 c5
      exact mn_Mod_sheet_13 C post x1 x2 _ _ _ _ hw (lv_sub hl [0, 1, 2] rfl) hR
set_option maxHeartbeats 4000000 in
set_option maxRecDepth 100000 in
theorem mt_Mod_isPlace (l : Launch) (D : va_G) (cs : CS) (Z : Nat → Nat) (sz : Nat) {post : Int32 → HS → Prop} {h : HS} {x0 : Int64} {x2 : Int64} (hw : wp_Mod_isPlace Z post h x0 x2) : Met l y_Mod_isPlace (Cond.code y_Mod_isPlace c_Mod_isPlace 4 (some .boolean) :: WA) ({ frames := 2, cells := 0, slots := 0, locals := 100 } : Room) (mPc D cs Z h sz [.long x0, .long x2]) (va_Qi post (mB D cs h sz) (fA h sz)) 0 0 (fA h sz) := by
  refine mx_met (fun sz => va_Qi post (mB D cs h sz) (fA h sz)) (by decide) (by simp [lg_sl, mx_rf_cat, cat_i, cat_l]) ?_
  intro p e s m args below meth c C hR ls hl
  have hl : lv_has ls 4 [(0, .long x0), (2, .long x2)] := hl
  obtain ⟨hx, hb, hr, hml, hown, hW, hlocks, hnm, hK, hZ⟩ := id C
  have hown : s.vm.findClass "NetJoinsModel" = some m.cls := hown
  have hA : ∀ q, s.heap.size ≤ q → fA h s.heap.size q := fun _ h => Or.inr h
  unfold wp_Mod_isPlace at hw
  refine lv_lload_n hx hb d_Mod_isPlace_0 rfl (lv_at hl 0 rfl) ?_
  refine lv_ldc2 hx hb hown (hW _ kw_1319) d_Mod_isPlace_1 ?_
  refine W.lcmp hx hb d_Mod_isPlace_4 ?_
  refine lv_if_lt (tgt := 36) hx hb d_Mod_isPlace_5 (by decide) (fun c1 => ?_) (fun c1 => ?_)
  · have hw := hw.1 c1
    refine lv_iconst (v := 0) hx hb d_Mod_isPlace_36 (by decide) ?_
    exact mx_zret hx hb hr hlocks hR (Or.inl rfl) hw d_Mod_isPlace_37
  · have hw := hw.2 c1
    refine lv_lload_n hx hb d_Mod_isPlace_8 rfl (lv_at hl 0 rfl) ?_
    refine lv_ldc2 hx hb hown (hW _ kw_1320) d_Mod_isPlace_9 ?_
    refine W.lcmp hx hb d_Mod_isPlace_12 ?_
    refine lv_if_gt (tgt := 36) hx hb d_Mod_isPlace_13 (by decide) (fun c2 => ?_) (fun c2 => ?_)
    · have hw := hw.1 c2
      refine lv_iconst (v := 0) hx hb d_Mod_isPlace_36 (by decide) ?_
      exact mx_zret hx hb hr hlocks hR (Or.inl rfl) hw d_Mod_isPlace_37
    · have hw := hw.2 c2
      refine lv_lload_n hx hb d_Mod_isPlace_16 rfl (lv_at hl 1 rfl) ?_
      refine lv_ldc2 hx hb hown (hW _ kw_1319) d_Mod_isPlace_17 ?_
      refine W.lcmp hx hb d_Mod_isPlace_20 ?_
      refine lv_if_lt (tgt := 36) hx hb d_Mod_isPlace_21 (by decide) (fun c3 => ?_) (fun c3 => ?_)
      · have hw := hw.1 c3
        refine lv_iconst (v := 0) hx hb d_Mod_isPlace_36 (by decide) ?_
        exact mx_zret hx hb hr hlocks hR (Or.inl rfl) hw d_Mod_isPlace_37
      · have hw := hw.2 c3
        refine lv_lload_n hx hb d_Mod_isPlace_24 rfl (lv_at hl 1 rfl) ?_
        refine lv_ldc2 hx hb hown (hW _ kw_1320) d_Mod_isPlace_25 ?_
        refine W.lcmp hx hb d_Mod_isPlace_28 ?_
        refine lv_if_gt (tgt := 36) hx hb d_Mod_isPlace_29 (by decide) (fun c4 => ?_) (fun c4 => ?_)
        · have hw := hw.1 c4
          refine lv_iconst (v := 0) hx hb d_Mod_isPlace_36 (by decide) ?_
          exact mx_zret hx hb hr hlocks hR (Or.inl rfl) hw d_Mod_isPlace_37
        · have hw := hw.2 c4
          refine lv_iconst (v := 1) hx hb d_Mod_isPlace_32 (by decide) ?_
          refine lv_goto (tgt := 37) hx hb d_Mod_isPlace_33 (by decide) ?_
          exact mx_zret hx hb hr hlocks hR (Or.inr rfl) hw d_Mod_isPlace_37
set_option maxHeartbeats 4000000 in
set_option maxRecDepth 100000 in
theorem mt_Mod_refusal (l : Launch) (D : va_G) (cs : CS) (Z : Nat → Nat) (sz : Nat) {post : Int32 → HS → Prop} {h : HS} {v0 : Nat} {x1 : Int32} {x2 : Int32} (hw : wp_Mod_refusal Z post h v0 x1 x2) : Met l y_Mod_refusal (Cond.code y_Mod_refusal c_Mod_refusal 3 (some .int) :: WA) ({ frames := 3, cells := 0, slots := 0, locals := 121 } : Room) (mPc D cs Z h sz [va_rf (some v0), .int x1, .int x2]) (va_Qi post (mB D cs h sz) (fA h sz)) 0 0 (fA h sz) := by
  refine mx_met (fun sz => va_Qi post (mB D cs h sz) (fA h sz)) (by decide) (by simp [lg_sl, mx_rf_cat, cat_i, cat_l]) ?_
  intro p e s m args below meth c C hR ls hl
  have hl : lv_has ls 3 [(0, va_rf (some v0)), (1, .int x1), (2, .int x2)] := hl
  obtain ⟨hx, hb, hr, hml, hown, hW, hlocks, hnm, hK, hZ⟩ := id C
  have hown : s.vm.findClass "NetJoinsModel" = some m.cls := hown
  have hA : ∀ q, s.heap.size ≤ q → fA h s.heap.size q := fun _ h => Or.inr h
  unfold wp_Mod_refusal at hw
  refine mx_aload_n (r := some v0) hx hb d_Mod_refusal_0 rfl (lv_at hl 0 rfl) ?_
  refine lv_iload_n hx hb d_Mod_refusal_1 rfl (lv_at hl 1 rfl) ?_
  obtain ⟨t3, hw⟩ := hw
  refine mx_calli (va_runV (b := v0) (As := [.int x1]) (rest := []) ⟨hx, hb, hml, hown, hW⟩ (mt_Mod_isSheet l D cs Z _ hw) (mx_cwV hW ok_Mod_isSheet kw_1244 rfl rfl ⟨Nat.le_of_ble_eq_true rfl, Nat.le_of_ble_eq_true rfl⟩) (mx_preV hK hZ hA hR (ci := 8) rfl t3) rfl rfl hl.1 rfl (lv_room (Nat.le_of_ble_eq_true rfl)) d_Mod_refusal_2 ⟨Nat.le_of_ble_eq_true rfl, Nat.le_of_ble_eq_true rfl⟩) hR hA (fun r1 h2 H locs hw hR => ?_)
  try dsimp only at hw
  refine lv_if_ne (tgt := 10) hx hb d_Mod_refusal_5 (by decide) (fun c4 => ?_) (fun c4 => ?_)
  · have hw := hw.1 c4
    refine mx_aload_n (r := some v0) hx hb d_Mod_refusal_10 rfl (lv_at hl 0 rfl) ?_
    obtain ⟨t5, hw⟩ := hw
    refine mx_get (ci := 8) (C := "NetJoinsModel") (T := F_Mod) (N := 33) hx hb hW hown hK.1 hR (a := v0) rfl t5 rfl i_Mod 3 2 (by decide) rfl kw_1138 (fun _ h9 => h9) d_Mod_refusal_11 ?_
    refine lv_iload_n hx hb d_Mod_refusal_14 rfl (lv_at hl 1 rfl) ?_
    obtain ⟨a6, ea6, t7, t7i, hw⟩ := hw
    refine mx_iald hx hb hK.1 hR (a := a6) ea6 t7 t7i d_Mod_refusal_15 ?_
    refine lv_iload_n hx hb d_Mod_refusal_16 rfl (lv_at hl 1 rfl) ?_
    refine lv_icmp_eq (tgt := 24) hx hb d_Mod_refusal_17 (by decide) (fun c8 => ?_) (fun c8 => ?_)
    · have hw := hw.1 c8
      refine lv_iload_n hx hb d_Mod_refusal_24 rfl (lv_at hl 2 rfl) ?_
      refine lv_if_eq (tgt := 32) hx hb d_Mod_refusal_25 (by decide) (fun c9 => ?_) (fun c9 => ?_)
      · have hw := hw.1 c9
        refine lv_iconst (v := 3) hx hb d_Mod_refusal_32 (by decide) ?_
        exact mx_iret hx hb hr hlocks hR hw d_Mod_refusal_33
      · have hw := hw.2 c9
        refine lv_iconst (v := 0) hx hb d_Mod_refusal_28 (by decide) ?_
        refine lv_goto (tgt := 33) hx hb d_Mod_refusal_29 (by decide) ?_
        exact mx_iret hx hb hr hlocks hR hw d_Mod_refusal_33
    · have hw := hw.2 c8
      refine lv_iconst (v := 2) hx hb d_Mod_refusal_20 (by decide) ?_
      refine lv_goto (tgt := 33) hx hb d_Mod_refusal_21 (by decide) ?_
      exact mx_iret hx hb hr hlocks hR hw d_Mod_refusal_33
  · have hw := hw.2 c4
    refine lv_iconst (v := 1) hx hb d_Mod_refusal_8 (by decide) ?_
    exact mx_iret hx hb hr hlocks hR hw d_Mod_refusal_9
set_option maxHeartbeats 4000000 in
set_option maxRecDepth 100000 in
theorem mn_Mod_wire_42 {D : va_G} {cs : CS} {Z : Nat → Nat} {h0 : HS} {p : Program} {l : Launch} {e : Env} {s : State} {m : MethodId} {args : Array Value} {below : List Frame} {meth : Method} {c : Code} {v0 : Nat} (C : mC D cs Z h0 y_Mod_wire c_Mod_wire 10 (some .int) p s m args meth c) (post : Int32 → HS → Prop) : ∀ (x1 : Int32) (x2 : Int64) (x4 : Int64) (x6 : Int64) (x8 : Int64) (s0 : Int32) (s1 : Int32) (s2 : Option Nat) (s3 : Option Nat) (h : HS) (H : Heap) (locs : List Loc) (ls : Array Slot), wj_Mod_wire_42 Z post v0 x1 x2 x4 x6 x8 s0 s1 s2 s3 h → lv_has ls 10 [(0, va_rf (some v0)), (1, .int x1), (2, .long x2), (4, .long x4), (6, .long x6), (8, .long x8)] → mR D cs (fA h0 s.heap.size) h s.heap H locs → W p l e ({ frames := 8, cells := 0, slots := 0, locals := 243 } : Room) s m args below meth c H locs 0 0 (MQ below (va_Qi post (mB D cs h0 s.heap.size) (fA h0 s.heap.size)) args s 0 0 (fA h0 s.heap.size)) (F0 m 42 ls [.int s0, .int s1, va_rf s2, va_rf s3]) := by
  obtain ⟨hx, hb, hr, hml, hown, hW, hlocks, hnm, hK, hZ⟩ := id C
  have hown : s.vm.findClass "NetJoinsModel" = some m.cls := hown
  have hA : ∀ q, s.heap.size ≤ q → fA h0 s.heap.size q := fun _ h => Or.inr h
  intro x1 x2 x4 x6 x8 s0 s1 s2 s3 h H locs ls hw hl hR
  unfold wj_Mod_wire_42 at hw
  obtain ⟨a3, ea3, t4, hw⟩ := hw
  refine W.eq (g2 := F0 m 42 ls [.int s0, .int s1, va_rf (some a3), va_rf s3]) (by rw [← ea3] <;> rfl) ?_
  refine mx_calli (va_runV (b := a3) (As := [.int s1, .int s0]) (rest := [va_rf s3]) ⟨hx, hb, hml, hown, hW⟩ (mt_Mod_refusal l D cs Z _ hw) (mx_cwV hW ok_Mod_refusal kw_1321 rfl rfl ⟨Nat.le_of_ble_eq_true rfl, Nat.le_of_ble_eq_true rfl⟩) (mx_preV hK hZ hA hR (ci := 8) rfl t4) rfl rfl hl.1 rfl (lv_room (by simp [mx_rf_cat, cat_i, cat_l])) d_Mod_wire_42 ⟨Nat.le_of_ble_eq_true rfl, Nat.le_of_ble_eq_true rfl⟩) hR hA (fun r1 h2 H locs hw hR => ?_)
  try dsimp only at hw
  obtain ⟨a5, ea5, t6, hw⟩ := hw
  refine mx_put (ci := 8) (C := "NetJoinsModel") (T := F_Mod) (N := 33) (v := .int r1) (h' := sI h2 800 a5 r1) hx hb hW hown hK.1 hR (a := a5) ea5 t6 rfl i_Mod t_Mod t_Mod_ok n_Mod 0 0 (by decide) rfl kw_1135 (fun _ h9 => h9) rfl rfl rfl d_Mod_wire_45 rfl (toE_sI (ci := 8) (k := 0) t6 rfl) (fun H locs hR => ?_)
  obtain ⟨h7, eh7⟩ : ∃ z, z = sI h2 800 a5 r1 := ⟨_, rfl⟩
  rw [← eh7] at hR
  have hw := hw h7 eh7
  refine mx_aload_n (r := some v0) hx hb d_Mod_wire_48 rfl (lv_at hl 0 rfl) ?_
  obtain ⟨t8, hw⟩ := hw
  refine mx_get (ci := 8) (C := "NetJoinsModel") (T := F_Mod) (N := 33) hx hb hW hown hK.1 hR (a := v0) rfl t8 rfl i_Mod 0 0 (by decide) rfl kw_1135 (fun _ h9 => h9) d_Mod_wire_49 ?_
  refine lv_if_eq (tgt := 57) hx hb d_Mod_wire_52 (by decide) (fun c9 => ?_) (fun c9 => ?_)
  · have hw := hw.1 c9
    refine mx_aload_n (r := some v0) hx hb d_Mod_wire_57 rfl (lv_at hl 0 rfl) ?_
    obtain ⟨t10, hw⟩ := hw
    refine mx_get (ci := 8) (C := "NetJoinsModel") (T := F_Mod) (N := 33) hx hb hW hown hK.1 hR (a := v0) rfl t10 rfl i_Mod 4 0 (by decide) rfl kw_1139 (fun _ h9 => h9) d_Mod_wire_58 ?_
    refine lv_bipush (v := 100) hx hb d_Mod_wire_61 (by decide) ?_
    refine lv_icmp_ne (tgt := 68) hx hb d_Mod_wire_63 (by decide) (fun c11 => ?_) (fun c11 => ?_)
    · have hw := hw.1 c11
      refine mx_aload_n (r := some v0) hx hb d_Mod_wire_68 rfl (lv_at hl 0 rfl) ?_
      obtain ⟨t12, hw⟩ := hw
      refine mx_get (ci := 8) (C := "NetJoinsModel") (T := F_Mod) (N := 33) hx hb hW hown hK.1 hR (a := v0) rfl t12 rfl i_Mod 5 2 (by decide) rfl kw_1140 (fun _ h9 => h9) d_Mod_wire_69 ?_
      refine mx_aload_n (r := some v0) hx hb d_Mod_wire_72 rfl (lv_at hl 0 rfl) ?_
      obtain ⟨t13, hw⟩ := hw
      refine mx_get (ci := 8) (C := "NetJoinsModel") (T := F_Mod) (N := 33) hx hb hW hown hK.1 hR (a := v0) rfl t13 rfl i_Mod 4 0 (by decide) rfl kw_1139 (fun _ h9 => h9) d_Mod_wire_73 ?_
      refine lv_iload_n hx hb d_Mod_wire_76 rfl (lv_at hl 1 rfl) ?_
      obtain ⟨a14, ea14, t15, t15i, hw⟩ := hw
      refine mx_iast hx hb hK.1 hR (a := a14) ea14 t15 t15i d_Mod_wire_77 (fun H locs hR => ?_)
      obtain ⟨h16, eh16⟩ : ∃ z, z = sA h7 a14 (gI h7 804 v0).toNatClampNeg x1 := ⟨_, rfl⟩
      rw [← eh16] at hR
      have hw := hw h16 eh16
      refine mx_aload_n (r := some v0) hx hb d_Mod_wire_78 rfl (lv_at hl 0 rfl) ?_
      obtain ⟨t17, hw⟩ := hw
      refine mx_get (ci := 8) (C := "NetJoinsModel") (T := F_Mod) (N := 33) hx hb hW hown hK.1 hR (a := v0) rfl t17 rfl i_Mod 6 2 (by decide) rfl kw_1141 (fun _ h9 => h9) d_Mod_wire_79 ?_
      refine lv_iconst (v := 4) hx hb d_Mod_wire_82 (by decide) ?_
      refine mx_aload_n (r := some v0) hx hb d_Mod_wire_83 rfl (lv_at hl 0 rfl) ?_
      obtain ⟨t18, hw⟩ := hw
      refine mx_get (ci := 8) (C := "NetJoinsModel") (T := F_Mod) (N := 33) hx hb hW hown hK.1 hR (a := v0) rfl t18 rfl i_Mod 4 0 (by decide) rfl kw_1139 (fun _ h9 => h9) d_Mod_wire_84 ?_
      refine lv_imul hx hb d_Mod_wire_87 ?_
      refine lv_lload_n hx hb d_Mod_wire_88 rfl (lv_at hl 2 rfl) ?_
      obtain ⟨a19, ea19, t20, t20i, hw⟩ := hw
      refine mx_last hx hb hK.1 hR (a := a19) ea19 t20 t20i d_Mod_wire_89 (fun H locs hR => ?_)
      obtain ⟨h21, eh21⟩ : ∃ z, z = sL h16 a19 ((4 : Int32) * (gI h16 804 v0)).toNatClampNeg x2 := ⟨_, rfl⟩
      rw [← eh21] at hR
      have hw := hw h21 eh21
      refine mx_aload_n (r := some v0) hx hb d_Mod_wire_90 rfl (lv_at hl 0 rfl) ?_
      obtain ⟨t22, hw⟩ := hw
      refine mx_get (ci := 8) (C := "NetJoinsModel") (T := F_Mod) (N := 33) hx hb hW hown hK.1 hR (a := v0) rfl t22 rfl i_Mod 6 2 (by decide) rfl kw_1141 (fun _ h9 => h9) d_Mod_wire_91 ?_
      refine lv_iconst (v := 4) hx hb d_Mod_wire_94 (by decide) ?_
      refine mx_aload_n (r := some v0) hx hb d_Mod_wire_95 rfl (lv_at hl 0 rfl) ?_
      obtain ⟨t23, hw⟩ := hw
      refine mx_get (ci := 8) (C := "NetJoinsModel") (T := F_Mod) (N := 33) hx hb hW hown hK.1 hR (a := v0) rfl t23 rfl i_Mod 4 0 (by decide) rfl kw_1139 (fun _ h9 => h9) d_Mod_wire_96 ?_
      refine lv_imul hx hb d_Mod_wire_99 ?_
      refine lv_iconst (v := 1) hx hb d_Mod_wire_100 (by decide) ?_
      refine lv_iadd hx hb d_Mod_wire_101 ?_
      refine lv_lload hx hb d_Mod_wire_102 (lv_at hl 3 rfl) ?_
      obtain ⟨a24, ea24, t25, t25i, hw⟩ := hw
      refine mx_last hx hb hK.1 hR (a := a24) ea24 t25 t25i d_Mod_wire_104 (fun H locs hR => ?_)
      obtain ⟨h26, eh26⟩ : ∃ z, z = sL h21 a24 (((4 : Int32) * (gI h21 804 v0)) + (1 : Int32)).toNatClampNeg x4 := ⟨_, rfl⟩
      rw [← eh26] at hR
      have hw := hw h26 eh26
      refine mx_aload_n (r := some v0) hx hb d_Mod_wire_105 rfl (lv_at hl 0 rfl) ?_
      obtain ⟨t27, hw⟩ := hw
      refine mx_get (ci := 8) (C := "NetJoinsModel") (T := F_Mod) (N := 33) hx hb hW hown hK.1 hR (a := v0) rfl t27 rfl i_Mod 6 2 (by decide) rfl kw_1141 (fun _ h9 => h9) d_Mod_wire_106 ?_
      refine lv_iconst (v := 4) hx hb d_Mod_wire_109 (by decide) ?_
      refine mx_aload_n (r := some v0) hx hb d_Mod_wire_110 rfl (lv_at hl 0 rfl) ?_
      obtain ⟨t28, hw⟩ := hw
      refine mx_get (ci := 8) (C := "NetJoinsModel") (T := F_Mod) (N := 33) hx hb hW hown hK.1 hR (a := v0) rfl t28 rfl i_Mod 4 0 (by decide) rfl kw_1139 (fun _ h9 => h9) d_Mod_wire_111 ?_
      refine lv_imul hx hb d_Mod_wire_114 ?_
      refine lv_iconst (v := 2) hx hb d_Mod_wire_115 (by decide) ?_
      refine lv_iadd hx hb d_Mod_wire_116 ?_
      refine lv_lload hx hb d_Mod_wire_117 (lv_at hl 4 rfl) ?_
      obtain ⟨a29, ea29, t30, t30i, hw⟩ := hw
      refine mx_last hx hb hK.1 hR (a := a29) ea29 t30 t30i d_Mod_wire_119 (fun H locs hR => ?_)
      obtain ⟨h31, eh31⟩ : ∃ z, z = sL h26 a29 (((4 : Int32) * (gI h26 804 v0)) + (2 : Int32)).toNatClampNeg x6 := ⟨_, rfl⟩
      rw [← eh31] at hR
      have hw := hw h31 eh31
      refine mx_aload_n (r := some v0) hx hb d_Mod_wire_120 rfl (lv_at hl 0 rfl) ?_
      obtain ⟨t32, hw⟩ := hw
      refine mx_get (ci := 8) (C := "NetJoinsModel") (T := F_Mod) (N := 33) hx hb hW hown hK.1 hR (a := v0) rfl t32 rfl i_Mod 6 2 (by decide) rfl kw_1141 (fun _ h9 => h9) d_Mod_wire_121 ?_
      refine lv_iconst (v := 4) hx hb d_Mod_wire_124 (by decide) ?_
      refine mx_aload_n (r := some v0) hx hb d_Mod_wire_125 rfl (lv_at hl 0 rfl) ?_
      obtain ⟨t33, hw⟩ := hw
      refine mx_get (ci := 8) (C := "NetJoinsModel") (T := F_Mod) (N := 33) hx hb hW hown hK.1 hR (a := v0) rfl t33 rfl i_Mod 4 0 (by decide) rfl kw_1139 (fun _ h9 => h9) d_Mod_wire_126 ?_
      refine lv_imul hx hb d_Mod_wire_129 ?_
      refine lv_iconst (v := 3) hx hb d_Mod_wire_130 (by decide) ?_
      refine lv_iadd hx hb d_Mod_wire_131 ?_
      refine lv_lload hx hb d_Mod_wire_132 (lv_at hl 5 rfl) ?_
      obtain ⟨a34, ea34, t35, t35i, hw⟩ := hw
      refine mx_last hx hb hK.1 hR (a := a34) ea34 t35 t35i d_Mod_wire_134 (fun H locs hR => ?_)
      obtain ⟨h36, eh36⟩ : ∃ z, z = sL h31 a34 (((4 : Int32) * (gI h31 804 v0)) + (3 : Int32)).toNatClampNeg x8 := ⟨_, rfl⟩
      rw [← eh36] at hR
      have hw := hw h36 eh36
      refine mx_aload_n (r := some v0) hx hb d_Mod_wire_135 rfl (lv_at hl 0 rfl) ?_
      refine lv_dup hx hb d_Mod_wire_136 (mx_rf_cat _) ?_
      obtain ⟨t37, hw⟩ := hw
      refine mx_get (ci := 8) (C := "NetJoinsModel") (T := F_Mod) (N := 33) hx hb hW hown hK.1 hR (a := v0) rfl t37 rfl i_Mod 4 0 (by decide) rfl kw_1139 (fun _ h9 => h9) d_Mod_wire_137 ?_
      refine lv_iconst (v := 1) hx hb d_Mod_wire_140 (by decide) ?_
      refine lv_iadd hx hb d_Mod_wire_141 ?_
      obtain ⟨t38, hw⟩ := hw
      refine mx_put (ci := 8) (C := "NetJoinsModel") (T := F_Mod) (N := 33) (v := .int ((gI h36 804 v0) + (1 : Int32))) (h' := sI h36 804 v0 ((gI h36 804 v0) + (1 : Int32))) hx hb hW hown hK.1 hR (a := v0) rfl t38 rfl i_Mod t_Mod t_Mod_ok n_Mod 4 0 (by decide) rfl kw_1139 (fun _ h9 => h9) rfl rfl rfl d_Mod_wire_142 rfl (toE_sI (ci := 8) (k := 4) t38 rfl) (fun H locs hR => ?_)
      obtain ⟨h39, eh39⟩ : ∃ z, z = sI h36 804 v0 ((gI h36 804 v0) + (1 : Int32)) := ⟨_, rfl⟩
      rw [← eh39] at hR
      have hw := hw h39 eh39
      refine mx_aload_n (r := some v0) hx hb d_Mod_wire_145 rfl (lv_at hl 0 rfl) ?_
      obtain ⟨t42, hw⟩ := hw
      refine mx_callv (va_runV (b := v0) (As := []) (rest := []) ⟨hx, hb, hml, hown, hW⟩ (mt_Mod_anew l D cs Z _ hw) (mx_cwV hW ok_Mod_anew kw_1248 rfl rfl ⟨Nat.le_of_ble_eq_true rfl, Nat.le_of_ble_eq_true rfl⟩) (mx_preV hK hZ hA hR (ci := 8) rfl t42) rfl rfl hl.1 rfl (lv_room (Nat.le_of_ble_eq_true rfl)) d_Mod_wire_146 ⟨Nat.le_of_ble_eq_true rfl, Nat.le_of_ble_eq_true rfl⟩) hR hA (fun h41 H locs hw hR => ?_)
      try dsimp only at hw
      refine mx_aload_n (r := some v0) hx hb d_Mod_wire_149 rfl (lv_at hl 0 rfl) ?_
      obtain ⟨t43, hw⟩ := hw
      refine mx_get (ci := 8) (C := "NetJoinsModel") (T := F_Mod) (N := 33) hx hb hW hown hK.1 hR (a := v0) rfl t43 rfl i_Mod 4 0 (by decide) rfl kw_1139 (fun _ h9 => h9) d_Mod_wire_150 ?_
      refine lv_iconst (v := 1) hx hb d_Mod_wire_153 (by decide) ?_
      refine lv_isub hx hb d_Mod_wire_154 ?_
      exact mx_iret hx hb hr hlocks hR hw d_Mod_wire_155
    · have hw := hw.2 c11
      refine lv_iconst (v := (-1)) hx hb d_Mod_wire_66 (by decide) ?_
      exact mx_iret hx hb hr hlocks hR hw d_Mod_wire_67
  · have hw := hw.2 c9
    refine lv_iconst (v := 0) hx hb d_Mod_wire_55 (by decide) ?_
    exact mx_iret hx hb hr hlocks hR hw d_Mod_wire_56
set_option maxHeartbeats 4000000 in
set_option maxRecDepth 100000 in
theorem mn_Mod_wire_41 {D : va_G} {cs : CS} {Z : Nat → Nat} {h0 : HS} {p : Program} {l : Launch} {e : Env} {s : State} {m : MethodId} {args : Array Value} {below : List Frame} {meth : Method} {c : Code} {v0 : Nat} (C : mC D cs Z h0 y_Mod_wire c_Mod_wire 10 (some .int) p s m args meth c) (post : Int32 → HS → Prop) : ∀ (x1 : Int32) (x2 : Int64) (x4 : Int64) (x6 : Int64) (x8 : Int64) (s0 : Int32) (s1 : Option Nat) (s2 : Option Nat) (h : HS) (H : Heap) (locs : List Loc) (ls : Array Slot), wj_Mod_wire_41 Z post v0 x1 x2 x4 x6 x8 s0 s1 s2 h → lv_has ls 10 [(0, va_rf (some v0)), (1, .int x1), (2, .long x2), (4, .long x4), (6, .long x6), (8, .long x8)] → mR D cs (fA h0 s.heap.size) h s.heap H locs → W p l e ({ frames := 8, cells := 0, slots := 0, locals := 243 } : Room) s m args below meth c H locs 0 0 (MQ below (va_Qi post (mB D cs h0 s.heap.size) (fA h0 s.heap.size)) args s 0 0 (fA h0 s.heap.size)) (F0 m 41 ls [.int s0, va_rf s1, va_rf s2]) := by
  obtain ⟨hx, hb, hr, hml, hown, hW, hlocks, hnm, hK, hZ⟩ := id C
  have hown : s.vm.findClass "NetJoinsModel" = some m.cls := hown
  have hA : ∀ q, s.heap.size ≤ q → fA h0 s.heap.size q := fun _ h => Or.inr h
  intro x1 x2 x4 x6 x8 s0 s1 s2 h H locs ls hw hl hR
  unfold wj_Mod_wire_41 at hw
  refine lv_iconst (v := 0) hx hb d_Mod_wire_41 (by decide) ?_
  exact mn_Mod_wire_42 C post x1 x2 x4 x6 x8 (0 : Int32) s0 s1 s2 _ _ _ _ hw (lv_sub hl [0, 1, 2, 3, 4, 5] rfl) hR
set_option maxHeartbeats 4000000 in
set_option maxRecDepth 100000 in
theorem mn_Mod_wire_37 {D : va_G} {cs : CS} {Z : Nat → Nat} {h0 : HS} {p : Program} {l : Launch} {e : Env} {s : State} {m : MethodId} {args : Array Value} {below : List Frame} {meth : Method} {c : Code} {v0 : Nat} (C : mC D cs Z h0 y_Mod_wire c_Mod_wire 10 (some .int) p s m args meth c) (post : Int32 → HS → Prop) : ∀ (x1 : Int32) (x2 : Int64) (x4 : Int64) (x6 : Int64) (x8 : Int64) (s0 : Int32) (s1 : Option Nat) (s2 : Option Nat) (h : HS) (H : Heap) (locs : List Loc) (ls : Array Slot), wj_Mod_wire_37 Z post v0 x1 x2 x4 x6 x8 s0 s1 s2 h → lv_has ls 10 [(0, va_rf (some v0)), (1, .int x1), (2, .long x2), (4, .long x4), (6, .long x6), (8, .long x8)] → mR D cs (fA h0 s.heap.size) h s.heap H locs → W p l e ({ frames := 8, cells := 0, slots := 0, locals := 243 } : Room) s m args below meth c H locs 0 0 (MQ below (va_Qi post (mB D cs h0 s.heap.size) (fA h0 s.heap.size)) args s 0 0 (fA h0 s.heap.size)) (F0 m 37 ls [.int s0, va_rf s1, va_rf s2]) := by
  obtain ⟨hx, hb, hr, hml, hown, hW, hlocks, hnm, hK, hZ⟩ := id C
  have hown : s.vm.findClass "NetJoinsModel" = some m.cls := hown
  have hA : ∀ q, s.heap.size ≤ q → fA h0 s.heap.size q := fun _ h => Or.inr h
  intro x1 x2 x4 x6 x8 s0 s1 s2 h H locs ls hw hl hR
  unfold wj_Mod_wire_37 at hw
  refine lv_iconst (v := 1) hx hb d_Mod_wire_37 (by decide) ?_
  refine lv_goto (tgt := 42) hx hb d_Mod_wire_38 (by decide) ?_
  exact mn_Mod_wire_42 C post x1 x2 x4 x6 x8 (1 : Int32) s0 s1 s2 _ _ _ _ hw (lv_sub hl [0, 1, 2, 3, 4, 5] rfl) hR
set_option maxHeartbeats 4000000 in
set_option maxRecDepth 100000 in
theorem mt_Mod_wire (l : Launch) (D : va_G) (cs : CS) (Z : Nat → Nat) (sz : Nat) {post : Int32 → HS → Prop} {h : HS} {v0 : Nat} {x1 : Int32} {x2 : Int64} {x4 : Int64} {x6 : Int64} {x8 : Int64} (hw : wp_Mod_wire Z post h v0 x1 x2 x4 x6 x8) : Met l y_Mod_wire (Cond.code y_Mod_wire c_Mod_wire 10 (some .int) :: WA) ({ frames := 8, cells := 0, slots := 0, locals := 243 } : Room) (mPc D cs Z h sz [va_rf (some v0), .int x1, .long x2, .long x4, .long x6, .long x8]) (va_Qi post (mB D cs h sz) (fA h sz)) 0 0 (fA h sz) := by
  refine mx_met (fun sz => va_Qi post (mB D cs h sz) (fA h sz)) (by decide) (by simp [lg_sl, mx_rf_cat, cat_i, cat_l]) ?_
  intro p e s m args below meth c C hR ls hl
  have hl : lv_has ls 10 [(0, va_rf (some v0)), (1, .int x1), (2, .long x2), (4, .long x4), (6, .long x6), (8, .long x8)] := hl
  obtain ⟨hx, hb, hr, hml, hown, hW, hlocks, hnm, hK, hZ⟩ := id C
  have hown : s.vm.findClass "NetJoinsModel" = some m.cls := hown
  have hA : ∀ q, s.heap.size ≤ q → fA h s.heap.size q := fun _ h => Or.inr h
  unfold wp_Mod_wire at hw
  refine mx_aload_n (r := some v0) hx hb d_Mod_wire_0 rfl (lv_at hl 0 rfl) ?_
  refine mx_aload_n (r := some v0) hx hb d_Mod_wire_1 rfl (lv_at hl 0 rfl) ?_
  refine lv_iload_n hx hb d_Mod_wire_2 rfl (lv_at hl 1 rfl) ?_
  refine lv_lload_n hx hb d_Mod_wire_3 rfl (lv_at hl 2 rfl) ?_
  refine lv_lload hx hb d_Mod_wire_4 (lv_at hl 3 rfl) ?_
  refine mx_calli (va_runS (As := [.long x2, .long x4]) (rest := [.int x1, va_rf (some v0), va_rf (some v0)]) ⟨hx, hb, hml, hown, hW⟩ (mt_Mod_isPlace l D cs Z _ hw) (mx_cwS hW ok_Mod_isPlace kw_1316 rfl rfl ⟨Nat.le_of_ble_eq_true rfl, Nat.le_of_ble_eq_true rfl⟩) (mx_preS hK hZ hA hR) rfl rfl hl.1 rfl (lv_room (Nat.le_of_ble_eq_true rfl)) d_Mod_wire_6 ⟨Nat.le_of_ble_eq_true rfl, Nat.le_of_ble_eq_true rfl⟩) hR hA (fun r1 h2 H locs hw hR => ?_)
  try dsimp only at hw
  refine lv_if_eq (tgt := 41) hx hb d_Mod_wire_9 (by decide) (fun c3 => ?_) (fun c3 => ?_)
  · have hw := hw.1 c3
    exact mn_Mod_wire_41 C post x1 x2 x4 x6 x8 x1 (some v0) (some v0) _ _ _ _ hw (lv_sub hl [0, 1, 2, 3, 4, 5] rfl) hR
  · have hw := hw.2 c3
    refine lv_lload hx hb d_Mod_wire_12 (lv_at hl 4 rfl) ?_
    refine lv_lload hx hb d_Mod_wire_14 (lv_at hl 5 rfl) ?_
    refine mx_calli (va_runS (As := [.long x6, .long x8]) (rest := [.int x1, va_rf (some v0), va_rf (some v0)]) ⟨hx, hb, hml, hown, hW⟩ (mt_Mod_isPlace l D cs Z _ hw) (mx_cwS hW ok_Mod_isPlace kw_1316 rfl rfl ⟨Nat.le_of_ble_eq_true rfl, Nat.le_of_ble_eq_true rfl⟩) (mx_preS hK hZ hA hR) rfl rfl hl.1 rfl (lv_room (Nat.le_of_ble_eq_true rfl)) d_Mod_wire_16 ⟨Nat.le_of_ble_eq_true rfl, Nat.le_of_ble_eq_true rfl⟩) hR hA (fun r4 h5 H locs hw hR => ?_)
    try dsimp only at hw
    refine lv_if_eq (tgt := 41) hx hb d_Mod_wire_19 (by decide) (fun c6 => ?_) (fun c6 => ?_)
    · have hw := hw.1 c6
      exact mn_Mod_wire_41 C post x1 x2 x4 x6 x8 x1 (some v0) (some v0) _ _ _ _ hw (lv_sub hl [0, 1, 2, 3, 4, 5] rfl) hR
    · have hw := hw.2 c6
      refine lv_lload_n hx hb d_Mod_wire_22 rfl (lv_at hl 2 rfl) ?_
      refine lv_lload hx hb d_Mod_wire_23 (lv_at hl 4 rfl) ?_
      refine W.lcmp hx hb d_Mod_wire_25 ?_
      refine lv_if_ne (tgt := 37) hx hb d_Mod_wire_26 (by decide) (fun c7 => ?_) (fun c7 => ?_)
      · have hw := hw.1 c7
        exact mn_Mod_wire_37 C post x1 x2 x4 x6 x8 x1 (some v0) (some v0) _ _ _ _ hw (lv_sub hl [0, 1, 2, 3, 4, 5] rfl) hR
      · have hw := hw.2 c7
        refine lv_lload hx hb d_Mod_wire_29 (lv_at hl 3 rfl) ?_
        refine lv_lload hx hb d_Mod_wire_31 (lv_at hl 5 rfl) ?_
        refine W.lcmp hx hb d_Mod_wire_33 ?_
        refine lv_if_eq (tgt := 41) hx hb d_Mod_wire_34 (by decide) (fun c8 => ?_) (fun c8 => ?_)
        · have hw := hw.1 c8
          exact mn_Mod_wire_41 C post x1 x2 x4 x6 x8 x1 (some v0) (some v0) _ _ _ _ hw (lv_sub hl [0, 1, 2, 3, 4, 5] rfl) hR
        · have hw := hw.2 c8
          exact mn_Mod_wire_37 C post x1 x2 x4 x6 x8 x1 (some v0) (some v0) _ _ _ _ hw (lv_sub hl [0, 1, 2, 3, 4, 5] rfl) hR
set_option maxHeartbeats 4000000 in
set_option maxRecDepth 100000 in
theorem mn_Mod_junction_89 {D : va_G} {cs : CS} {Z : Nat → Nat} {h0 : HS} {p : Program} {l : Launch} {e : Env} {s : State} {m : MethodId} {args : Array Value} {below : List Frame} {meth : Method} {c : Code} {v0 : Nat} (C : mC D cs Z h0 y_Mod_junction c_Mod_junction 7 (some .boolean) p s m args meth c) (post : Int32 → HS → Prop) (K36 : Int32 × Int64 × Int64 × Int32 × HS → Prop) (hK36 : ∀ (x1 : Int32) (x2 : Int64) (x4 : Int64) (x6 : Int32) (h : HS) (H : Heap) (locs : List Loc) (ls : Array Slot), K36 (x1, x2, x4, x6, h) → lv_has ls 7 [(0, va_rf (some v0)), (1, .int x1), (2, .long x2), (4, .long x4), (6, .int x6)] → mR D cs (fA h0 s.heap.size) h s.heap H locs → W p l e ({ frames := 8, cells := 0, slots := 0, locals := 243 } : Room) s m args below meth c H locs 0 0 (MQ below (va_Qi post (mB D cs h0 s.heap.size) (fA h0 s.heap.size)) args s 0 0 (fA h0 s.heap.size)) (F0 m 36 ls [])) : ∀ (x1 : Int32) (x2 : Int64) (x4 : Int64) (x6 : Int32) (h : HS) (H : Heap) (locs : List Loc) (ls : Array Slot), wj_Mod_junction_89 Z post K36 v0 x1 x2 x4 x6 h → lv_has ls 7 [(0, va_rf (some v0)), (1, .int x1), (2, .long x2), (4, .long x4), (6, .int x6)] → mR D cs (fA h0 s.heap.size) h s.heap H locs → W p l e ({ frames := 8, cells := 0, slots := 0, locals := 243 } : Room) s m args below meth c H locs 0 0 (MQ below (va_Qi post (mB D cs h0 s.heap.size) (fA h0 s.heap.size)) args s 0 0 (fA h0 s.heap.size)) (F0 m 89 ls []) := by
  obtain ⟨hx, hb, hr, hml, hown, hW, hlocks, hnm, hK, hZ⟩ := id C
  have hown : s.vm.findClass "NetJoinsModel" = some m.cls := hown
  have hA : ∀ q, s.heap.size ≤ q → fA h0 s.heap.size q := fun _ h => Or.inr h
  intro x1 x2 x4 x6 h H locs ls hw hl hR
  unfold wj_Mod_junction_89 at hw
  obtain ⟨y1, ey1⟩ : ∃ y : Int32, y = x6 + (1 : Int32) := ⟨_, rfl⟩
  have hw := hw y1 ey1
  refine lv_iinc (v := y1) (lv' := [(6, .int y1), (0, va_rf (some v0)), (1, .int x1), (2, .long x2), (4, .long x4)]) hx hb d_Mod_junction_89 hl (k := 4) rfl (by rw [ey1]; rfl) (by decide) rfl (fun ls hl => ?_)
  refine lv_goto (tgt := 36) hx hb d_Mod_junction_92 (by decide) ?_
  exact hK36 x1 x2 x4 y1 _ _ _ _ hw (lv_sub hl [1, 2, 3, 4, 0] rfl) hR
set_option maxHeartbeats 4000000 in
set_option maxRecDepth 100000 in
theorem mn_Mod_junction_36 {D : va_G} {cs : CS} {Z : Nat → Nat} {h0 : HS} {p : Program} {l : Launch} {e : Env} {s : State} {m : MethodId} {args : Array Value} {below : List Frame} {meth : Method} {c : Code} {v0 : Nat} (C : mC D cs Z h0 y_Mod_junction c_Mod_junction 7 (some .boolean) p s m args meth c) (post : Int32 → HS → Prop) : ∀ (n : Nat) (x1 : Int32) (x2 : Int64) (x4 : Int64) (x6 : Int32) (h : HS) (H : Heap) (locs : List Loc) (ls : Array Slot), lpF (wb_Mod_junction_36 Z post v0) n (x1, x2, x4, x6, h) → lv_has ls 7 [(0, va_rf (some v0)), (1, .int x1), (2, .long x2), (4, .long x4), (6, .int x6)] → mR D cs (fA h0 s.heap.size) h s.heap H locs → W p l e ({ frames := 8, cells := 0, slots := 0, locals := 243 } : Room) s m args below meth c H locs 0 0 (MQ below (va_Qi post (mB D cs h0 s.heap.size) (fA h0 s.heap.size)) args s 0 0 (fA h0 s.heap.size)) (F0 m 36 ls []) := by
  obtain ⟨hx, hb, hr, hml, hown, hW, hlocks, hnm, hK, hZ⟩ := id C
  have hown : s.vm.findClass "NetJoinsModel" = some m.cls := hown
  have hA : ∀ q, s.heap.size ≤ q → fA h0 s.heap.size q := fun _ h => Or.inr h
  intro n
  induction n with
  | zero => intro x1 x2 x4 x6 h H locs ls hw; exact hw.elim
  | succ n ih =>
    intro x1 x2 x4 x6 h H locs ls hw hl hR
    have hw : wb_Mod_junction_36 Z post v0 (lpF (wb_Mod_junction_36 Z post v0) n) (x1, x2, x4, x6, h) := hw
    unfold wb_Mod_junction_36 at hw
    dsimp only at hw
    refine lv_iload hx hb d_Mod_junction_36 (lv_at hl 4 rfl) ?_
    refine mx_aload_n (r := some v0) hx hb d_Mod_junction_38 rfl (lv_at hl 0 rfl) ?_
    obtain ⟨t1, hw⟩ := hw
    refine mx_get (ci := 8) (C := "NetJoinsModel") (T := F_Mod) (N := 33) hx hb hW hown hK.1 hR (a := v0) rfl t1 rfl i_Mod 8 0 (by decide) rfl kw_1143 (fun _ h9 => h9) d_Mod_junction_39 ?_
    refine lv_icmp_ge (tgt := 95) hx hb d_Mod_junction_42 (by decide) (fun c2 => ?_) (fun c2 => ?_)
    · have hw := hw.1 c2
      refine mx_aload_n (r := some v0) hx hb d_Mod_junction_95 rfl (lv_at hl 0 rfl) ?_
      obtain ⟨t3, hw⟩ := hw
      refine mx_get (ci := 8) (C := "NetJoinsModel") (T := F_Mod) (N := 33) hx hb hW hown hK.1 hR (a := v0) rfl t3 rfl i_Mod 9 2 (by decide) rfl kw_1144 (fun _ h9 => h9) d_Mod_junction_96 ?_
      refine mx_aload_n (r := some v0) hx hb d_Mod_junction_99 rfl (lv_at hl 0 rfl) ?_
      obtain ⟨t4, hw⟩ := hw
      refine mx_get (ci := 8) (C := "NetJoinsModel") (T := F_Mod) (N := 33) hx hb hW hown hK.1 hR (a := v0) rfl t4 rfl i_Mod 8 0 (by decide) rfl kw_1143 (fun _ h9 => h9) d_Mod_junction_100 ?_
      refine lv_iload_n hx hb d_Mod_junction_103 rfl (lv_at hl 1 rfl) ?_
      obtain ⟨a5, ea5, t6, t6i, hw⟩ := hw
      refine mx_iast hx hb hK.1 hR (a := a5) ea5 t6 t6i d_Mod_junction_104 (fun H locs hR => ?_)
      obtain ⟨h7, eh7⟩ : ∃ z, z = sA h a5 (gI h 808 v0).toNatClampNeg x1 := ⟨_, rfl⟩
      rw [← eh7] at hR
      have hw := hw h7 eh7
      refine mx_aload_n (r := some v0) hx hb d_Mod_junction_105 rfl (lv_at hl 0 rfl) ?_
      obtain ⟨t8, hw⟩ := hw
      refine mx_get (ci := 8) (C := "NetJoinsModel") (T := F_Mod) (N := 33) hx hb hW hown hK.1 hR (a := v0) rfl t8 rfl i_Mod 10 2 (by decide) rfl kw_1145 (fun _ h9 => h9) d_Mod_junction_106 ?_
      refine lv_iconst (v := 2) hx hb d_Mod_junction_109 (by decide) ?_
      refine mx_aload_n (r := some v0) hx hb d_Mod_junction_110 rfl (lv_at hl 0 rfl) ?_
      obtain ⟨t9, hw⟩ := hw
      refine mx_get (ci := 8) (C := "NetJoinsModel") (T := F_Mod) (N := 33) hx hb hW hown hK.1 hR (a := v0) rfl t9 rfl i_Mod 8 0 (by decide) rfl kw_1143 (fun _ h9 => h9) d_Mod_junction_111 ?_
      refine lv_imul hx hb d_Mod_junction_114 ?_
      refine lv_lload_n hx hb d_Mod_junction_115 rfl (lv_at hl 2 rfl) ?_
      obtain ⟨a10, ea10, t11, t11i, hw⟩ := hw
      refine mx_last hx hb hK.1 hR (a := a10) ea10 t11 t11i d_Mod_junction_116 (fun H locs hR => ?_)
      obtain ⟨h12, eh12⟩ : ∃ z, z = sL h7 a10 ((2 : Int32) * (gI h7 808 v0)).toNatClampNeg x2 := ⟨_, rfl⟩
      rw [← eh12] at hR
      have hw := hw h12 eh12
      refine mx_aload_n (r := some v0) hx hb d_Mod_junction_117 rfl (lv_at hl 0 rfl) ?_
      obtain ⟨t13, hw⟩ := hw
      refine mx_get (ci := 8) (C := "NetJoinsModel") (T := F_Mod) (N := 33) hx hb hW hown hK.1 hR (a := v0) rfl t13 rfl i_Mod 10 2 (by decide) rfl kw_1145 (fun _ h9 => h9) d_Mod_junction_118 ?_
      refine lv_iconst (v := 2) hx hb d_Mod_junction_121 (by decide) ?_
      refine mx_aload_n (r := some v0) hx hb d_Mod_junction_122 rfl (lv_at hl 0 rfl) ?_
      obtain ⟨t14, hw⟩ := hw
      refine mx_get (ci := 8) (C := "NetJoinsModel") (T := F_Mod) (N := 33) hx hb hW hown hK.1 hR (a := v0) rfl t14 rfl i_Mod 8 0 (by decide) rfl kw_1143 (fun _ h9 => h9) d_Mod_junction_123 ?_
      refine lv_imul hx hb d_Mod_junction_126 ?_
      refine lv_iconst (v := 1) hx hb d_Mod_junction_127 (by decide) ?_
      refine lv_iadd hx hb d_Mod_junction_128 ?_
      refine lv_lload hx hb d_Mod_junction_129 (lv_at hl 3 rfl) ?_
      obtain ⟨a15, ea15, t16, t16i, hw⟩ := hw
      refine mx_last hx hb hK.1 hR (a := a15) ea15 t16 t16i d_Mod_junction_131 (fun H locs hR => ?_)
      obtain ⟨h17, eh17⟩ : ∃ z, z = sL h12 a15 (((2 : Int32) * (gI h12 808 v0)) + (1 : Int32)).toNatClampNeg x4 := ⟨_, rfl⟩
      rw [← eh17] at hR
      have hw := hw h17 eh17
      refine mx_aload_n (r := some v0) hx hb d_Mod_junction_132 rfl (lv_at hl 0 rfl) ?_
      refine lv_dup hx hb d_Mod_junction_133 (mx_rf_cat _) ?_
      obtain ⟨t18, hw⟩ := hw
      refine mx_get (ci := 8) (C := "NetJoinsModel") (T := F_Mod) (N := 33) hx hb hW hown hK.1 hR (a := v0) rfl t18 rfl i_Mod 8 0 (by decide) rfl kw_1143 (fun _ h9 => h9) d_Mod_junction_134 ?_
      refine lv_iconst (v := 1) hx hb d_Mod_junction_137 (by decide) ?_
      refine lv_iadd hx hb d_Mod_junction_138 ?_
      obtain ⟨t19, hw⟩ := hw
      refine mx_put (ci := 8) (C := "NetJoinsModel") (T := F_Mod) (N := 33) (v := .int ((gI h17 808 v0) + (1 : Int32))) (h' := sI h17 808 v0 ((gI h17 808 v0) + (1 : Int32))) hx hb hW hown hK.1 hR (a := v0) rfl t19 rfl i_Mod t_Mod t_Mod_ok n_Mod 8 0 (by decide) rfl kw_1143 (fun _ h9 => h9) rfl rfl rfl d_Mod_junction_139 rfl (toE_sI (ci := 8) (k := 8) t19 rfl) (fun H locs hR => ?_)
      obtain ⟨h20, eh20⟩ : ∃ z, z = sI h17 808 v0 ((gI h17 808 v0) + (1 : Int32)) := ⟨_, rfl⟩
      rw [← eh20] at hR
      have hw := hw h20 eh20
      refine mx_aload_n (r := some v0) hx hb d_Mod_junction_142 rfl (lv_at hl 0 rfl) ?_
      obtain ⟨t23, hw⟩ := hw
      refine mx_callv (va_runV (b := v0) (As := []) (rest := []) ⟨hx, hb, hml, hown, hW⟩ (mt_Mod_anew l D cs Z _ hw) (mx_cwV hW ok_Mod_anew kw_1248 rfl rfl ⟨Nat.le_of_ble_eq_true rfl, Nat.le_of_ble_eq_true rfl⟩) (mx_preV hK hZ hA hR (ci := 8) rfl t23) rfl rfl hl.1 rfl (lv_room (Nat.le_of_ble_eq_true rfl)) d_Mod_junction_143 ⟨Nat.le_of_ble_eq_true rfl, Nat.le_of_ble_eq_true rfl⟩) hR hA (fun h22 H locs hw hR => ?_)
      try dsimp only at hw
      refine lv_iconst (v := 1) hx hb d_Mod_junction_146 (by decide) ?_
      exact mx_zret hx hb hr hlocks hR (Or.inr rfl) hw d_Mod_junction_147
    · have hw := hw.2 c2
      refine mx_aload_n (r := some v0) hx hb d_Mod_junction_45 rfl (lv_at hl 0 rfl) ?_
      obtain ⟨t24, hw⟩ := hw
      refine mx_get (ci := 8) (C := "NetJoinsModel") (T := F_Mod) (N := 33) hx hb hW hown hK.1 hR (a := v0) rfl t24 rfl i_Mod 9 2 (by decide) rfl kw_1144 (fun _ h9 => h9) d_Mod_junction_46 ?_
      refine lv_iload hx hb d_Mod_junction_49 (lv_at hl 4 rfl) ?_
      obtain ⟨a25, ea25, t26, t26i, hw⟩ := hw
      refine mx_iald hx hb hK.1 hR (a := a25) ea25 t26 t26i d_Mod_junction_51 ?_
      refine lv_iload_n hx hb d_Mod_junction_52 rfl (lv_at hl 1 rfl) ?_
      refine lv_icmp_ne (tgt := 89) hx hb d_Mod_junction_53 (by decide) (fun c27 => ?_) (fun c27 => ?_)
      · have hw := hw.1 c27
        exact mn_Mod_junction_89 C post (lpF (wb_Mod_junction_36 Z post v0) n) ih x1 x2 x4 x6 _ _ _ _ hw (lv_sub hl [0, 1, 2, 3, 4] rfl) hR
      · have hw := hw.2 c27
        refine mx_aload_n (r := some v0) hx hb d_Mod_junction_56 rfl (lv_at hl 0 rfl) ?_
        obtain ⟨t28, hw⟩ := hw
        refine mx_get (ci := 8) (C := "NetJoinsModel") (T := F_Mod) (N := 33) hx hb hW hown hK.1 hR (a := v0) rfl t28 rfl i_Mod 10 2 (by decide) rfl kw_1145 (fun _ h9 => h9) d_Mod_junction_57 ?_
        refine lv_iconst (v := 2) hx hb d_Mod_junction_60 (by decide) ?_
        refine lv_iload hx hb d_Mod_junction_61 (lv_at hl 4 rfl) ?_
        refine lv_imul hx hb d_Mod_junction_63 ?_
        obtain ⟨a29, ea29, t30, t30i, hw⟩ := hw
        refine mx_lald hx hb hK.1 hR (a := a29) ea29 t30 t30i d_Mod_junction_64 ?_
        refine lv_lload_n hx hb d_Mod_junction_65 rfl (lv_at hl 2 rfl) ?_
        refine W.lcmp hx hb d_Mod_junction_66 ?_
        refine lv_if_ne (tgt := 89) hx hb d_Mod_junction_67 (by decide) (fun c31 => ?_) (fun c31 => ?_)
        · have hw := hw.1 c31
          exact mn_Mod_junction_89 C post (lpF (wb_Mod_junction_36 Z post v0) n) ih x1 x2 x4 x6 _ _ _ _ hw (lv_sub hl [0, 1, 2, 3, 4] rfl) hR
        · have hw := hw.2 c31
          refine mx_aload_n (r := some v0) hx hb d_Mod_junction_70 rfl (lv_at hl 0 rfl) ?_
          obtain ⟨t32, hw⟩ := hw
          refine mx_get (ci := 8) (C := "NetJoinsModel") (T := F_Mod) (N := 33) hx hb hW hown hK.1 hR (a := v0) rfl t32 rfl i_Mod 10 2 (by decide) rfl kw_1145 (fun _ h9 => h9) d_Mod_junction_71 ?_
          refine lv_iconst (v := 2) hx hb d_Mod_junction_74 (by decide) ?_
          refine lv_iload hx hb d_Mod_junction_75 (lv_at hl 4 rfl) ?_
          refine lv_imul hx hb d_Mod_junction_77 ?_
          refine lv_iconst (v := 1) hx hb d_Mod_junction_78 (by decide) ?_
          refine lv_iadd hx hb d_Mod_junction_79 ?_
          obtain ⟨a33, ea33, t34, t34i, hw⟩ := hw
          refine mx_lald hx hb hK.1 hR (a := a33) ea33 t34 t34i d_Mod_junction_80 ?_
          refine lv_lload hx hb d_Mod_junction_81 (lv_at hl 3 rfl) ?_
          refine W.lcmp hx hb d_Mod_junction_83 ?_
          refine lv_if_ne (tgt := 89) hx hb d_Mod_junction_84 (by decide) (fun c35 => ?_) (fun c35 => ?_)
          · have hw := hw.1 c35
            exact mn_Mod_junction_89 C post (lpF (wb_Mod_junction_36 Z post v0) n) ih x1 x2 x4 x6 _ _ _ _ hw (lv_sub hl [0, 1, 2, 3, 4] rfl) hR
          · have hw := hw.2 c35
            refine lv_iconst (v := 0) hx hb d_Mod_junction_87 (by decide) ?_
            exact mx_zret hx hb hr hlocks hR (Or.inl rfl) hw d_Mod_junction_88
set_option maxHeartbeats 4000000 in
set_option maxRecDepth 100000 in
theorem mt_Mod_junction (l : Launch) (D : va_G) (cs : CS) (Z : Nat → Nat) (sz : Nat) {post : Int32 → HS → Prop} {h : HS} {v0 : Nat} {x1 : Int32} {x2 : Int64} {x4 : Int64} (hw : wp_Mod_junction Z post h v0 x1 x2 x4) : Met l y_Mod_junction (Cond.code y_Mod_junction c_Mod_junction 7 (some .boolean) :: WA) ({ frames := 8, cells := 0, slots := 0, locals := 243 } : Room) (mPc D cs Z h sz [va_rf (some v0), .int x1, .long x2, .long x4]) (va_Qi post (mB D cs h sz) (fA h sz)) 0 0 (fA h sz) := by
  refine mx_met (fun sz => va_Qi post (mB D cs h sz) (fA h sz)) (by decide) (by simp [lg_sl, mx_rf_cat, cat_i, cat_l]) ?_
  intro p e s m args below meth c C hR ls hl
  have hl : lv_has ls 7 [(0, va_rf (some v0)), (1, .int x1), (2, .long x2), (4, .long x4)] := hl
  obtain ⟨hx, hb, hr, hml, hown, hW, hlocks, hnm, hK, hZ⟩ := id C
  have hown : s.vm.findClass "NetJoinsModel" = some m.cls := hown
  have hA : ∀ q, s.heap.size ≤ q → fA h s.heap.size q := fun _ h => Or.inr h
  unfold wp_Mod_junction at hw
  refine mx_aload_n (r := some v0) hx hb d_Mod_junction_0 rfl (lv_at hl 0 rfl) ?_
  refine mx_aload_n (r := some v0) hx hb d_Mod_junction_1 rfl (lv_at hl 0 rfl) ?_
  refine lv_iload_n hx hb d_Mod_junction_2 rfl (lv_at hl 1 rfl) ?_
  refine lv_lload_n hx hb d_Mod_junction_3 rfl (lv_at hl 2 rfl) ?_
  refine lv_lload hx hb d_Mod_junction_4 (lv_at hl 3 rfl) ?_
  refine mx_calli (va_runS (As := [.long x2, .long x4]) (rest := [.int x1, va_rf (some v0), va_rf (some v0)]) ⟨hx, hb, hml, hown, hW⟩ (mt_Mod_isPlace l D cs Z _ hw) (mx_cwS hW ok_Mod_isPlace kw_1316 rfl rfl ⟨Nat.le_of_ble_eq_true rfl, Nat.le_of_ble_eq_true rfl⟩) (mx_preS hK hZ hA hR) rfl rfl hl.1 rfl (lv_room (Nat.le_of_ble_eq_true rfl)) d_Mod_junction_6 ⟨Nat.le_of_ble_eq_true rfl, Nat.le_of_ble_eq_true rfl⟩) hR hA (fun r1 h2 H locs hw hR => ?_)
  try dsimp only at hw
  obtain ⟨t5, hw⟩ := hw
  refine mx_calli (va_runV (b := v0) (As := [.int x1, .int r1]) (rest := [va_rf (some v0)]) ⟨hx, hb, hml, hown, hW⟩ (mt_Mod_refusal l D cs Z _ hw) (mx_cwV hW ok_Mod_refusal kw_1321 rfl rfl ⟨Nat.le_of_ble_eq_true rfl, Nat.le_of_ble_eq_true rfl⟩) (mx_preV hK hZ hA hR (ci := 8) rfl t5) rfl rfl hl.1 rfl (lv_room (Nat.le_of_ble_eq_true rfl)) d_Mod_junction_9 ⟨Nat.le_of_ble_eq_true rfl, Nat.le_of_ble_eq_true rfl⟩) hR hA (fun r3 h4 H locs hw hR => ?_)
  try dsimp only at hw
  obtain ⟨t6, hw⟩ := hw
  refine mx_put (ci := 8) (C := "NetJoinsModel") (T := F_Mod) (N := 33) (v := .int r3) (h' := sI h4 800 v0 r3) hx hb hW hown hK.1 hR (a := v0) rfl t6 rfl i_Mod t_Mod t_Mod_ok n_Mod 0 0 (by decide) rfl kw_1135 (fun _ h9 => h9) rfl rfl rfl d_Mod_junction_12 rfl (toE_sI (ci := 8) (k := 0) t6 rfl) (fun H locs hR => ?_)
  obtain ⟨h7, eh7⟩ : ∃ z, z = sI h4 800 v0 r3 := ⟨_, rfl⟩
  rw [← eh7] at hR
  have hw := hw h7 eh7
  refine mx_aload_n (r := some v0) hx hb d_Mod_junction_15 rfl (lv_at hl 0 rfl) ?_
  obtain ⟨t8, hw⟩ := hw
  refine mx_get (ci := 8) (C := "NetJoinsModel") (T := F_Mod) (N := 33) hx hb hW hown hK.1 hR (a := v0) rfl t8 rfl i_Mod 0 0 (by decide) rfl kw_1135 (fun _ h9 => h9) d_Mod_junction_16 ?_
  refine lv_if_ne (tgt := 31) hx hb d_Mod_junction_19 (by decide) (fun c9 => ?_) (fun c9 => ?_)
  · have hw := hw.1 c9
    refine lv_iconst (v := 0) hx hb d_Mod_junction_31 (by decide) ?_
    exact mx_zret hx hb hr hlocks hR (Or.inl rfl) hw d_Mod_junction_32
  · have hw := hw.2 c9
    refine mx_aload_n (r := some v0) hx hb d_Mod_junction_22 rfl (lv_at hl 0 rfl) ?_
    obtain ⟨t10, hw⟩ := hw
    refine mx_get (ci := 8) (C := "NetJoinsModel") (T := F_Mod) (N := 33) hx hb hW hown hK.1 hR (a := v0) rfl t10 rfl i_Mod 8 0 (by decide) rfl kw_1143 (fun _ h9 => h9) d_Mod_junction_23 ?_
    refine lv_bipush (v := 50) hx hb d_Mod_junction_26 (by decide) ?_
    refine lv_icmp_ne (tgt := 33) hx hb d_Mod_junction_28 (by decide) (fun c11 => ?_) (fun c11 => ?_)
    · have hw := hw.1 c11
      refine lv_iconst (v := 0) hx hb d_Mod_junction_33 (by decide) ?_
      refine lv_istore (i := 6) (lv' := [(6, .int (0 : Int32)), (0, va_rf (some v0)), (1, .int x1), (2, .long x2), (4, .long x4)]) hx hb d_Mod_junction_34 hl (by decide) rfl (fun ls hl => ?_)
      obtain ⟨n9, hw⟩ := hw
      exact mn_Mod_junction_36 C post n9 x1 x2 x4 (0 : Int32) _ _ _ _ hw (lv_sub hl [1, 2, 3, 4, 0] rfl) hR
    · have hw := hw.2 c11
      refine lv_iconst (v := 0) hx hb d_Mod_junction_31 (by decide) ?_
      exact mx_zret hx hb hr hlocks hR (Or.inl rfl) hw d_Mod_junction_32
set_option maxHeartbeats 4000000 in
set_option maxRecDepth 100000 in
theorem mt_Mod_isName (l : Launch) (D : va_G) (cs : CS) (Z : Nat → Nat) (sz : Nat) {post : Int32 → HS → Prop} {h : HS} {x0 : Int32} (hw : wp_Mod_isName Z post h x0) : Met l y_Mod_isName (Cond.code y_Mod_isName c_Mod_isName 1 (some .boolean) :: WA) ({ frames := 2, cells := 0, slots := 0, locals := 100 } : Room) (mPc D cs Z h sz [.int x0]) (va_Qi post (mB D cs h sz) (fA h sz)) 0 0 (fA h sz) := by
  refine mx_met (fun sz => va_Qi post (mB D cs h sz) (fA h sz)) (by decide) (by simp [lg_sl, mx_rf_cat, cat_i, cat_l]) ?_
  intro p e s m args below meth c C hR ls hl
  have hl : lv_has ls 1 [(0, .int x0)] := hl
  obtain ⟨hx, hb, hr, hml, hown, hW, hlocks, hnm, hK, hZ⟩ := id C
  have hown : s.vm.findClass "NetJoinsModel" = some m.cls := hown
  have hA : ∀ q, s.heap.size ≤ q → fA h s.heap.size q := fun _ h => Or.inr h
  unfold wp_Mod_isName at hw
  refine lv_iload_n hx hb d_Mod_isName_0 rfl (lv_at hl 0 rfl) ?_
  refine lv_if_lt (tgt := 15) hx hb d_Mod_isName_1 (by decide) (fun c1 => ?_) (fun c1 => ?_)
  · have hw := hw.1 c1
    refine lv_iconst (v := 0) hx hb d_Mod_isName_15 (by decide) ?_
    exact mx_zret hx hb hr hlocks hR (Or.inl rfl) hw d_Mod_isName_16
  · have hw := hw.2 c1
    refine lv_iload_n hx hb d_Mod_isName_4 rfl (lv_at hl 0 rfl) ?_
    refine lv_sipush (v := 1000) hx hb d_Mod_isName_5 (by decide) ?_
    refine lv_icmp_ge (tgt := 15) hx hb d_Mod_isName_8 (by decide) (fun c2 => ?_) (fun c2 => ?_)
    · have hw := hw.1 c2
      refine lv_iconst (v := 0) hx hb d_Mod_isName_15 (by decide) ?_
      exact mx_zret hx hb hr hlocks hR (Or.inl rfl) hw d_Mod_isName_16
    · have hw := hw.2 c2
      refine lv_iconst (v := 1) hx hb d_Mod_isName_11 (by decide) ?_
      refine lv_goto (tgt := 16) hx hb d_Mod_isName_12 (by decide) ?_
      exact mx_zret hx hb hr hlocks hR (Or.inr rfl) hw d_Mod_isName_16
set_option maxHeartbeats 4000000 in
set_option maxRecDepth 100000 in
theorem mn_Mod_label_25 {D : va_G} {cs : CS} {Z : Nat → Nat} {h0 : HS} {p : Program} {l : Launch} {e : Env} {s : State} {m : MethodId} {args : Array Value} {below : List Frame} {meth : Method} {c : Code} {v0 : Nat} (C : mC D cs Z h0 y_Mod_label c_Mod_label 7 (some .int) p s m args meth c) (post : Int32 → HS → Prop) : ∀ (x1 : Int32) (x2 : Int64) (x4 : Int64) (x6 : Int32) (s0 : Int32) (s1 : Int32) (s2 : Option Nat) (s3 : Option Nat) (h : HS) (H : Heap) (locs : List Loc) (ls : Array Slot), wj_Mod_label_25 Z post v0 x1 x2 x4 x6 s0 s1 s2 s3 h → lv_has ls 7 [(0, va_rf (some v0)), (1, .int x1), (2, .long x2), (4, .long x4), (6, .int x6)] → mR D cs (fA h0 s.heap.size) h s.heap H locs → W p l e ({ frames := 8, cells := 0, slots := 0, locals := 243 } : Room) s m args below meth c H locs 0 0 (MQ below (va_Qi post (mB D cs h0 s.heap.size) (fA h0 s.heap.size)) args s 0 0 (fA h0 s.heap.size)) (F0 m 25 ls [.int s0, .int s1, va_rf s2, va_rf s3]) := by
  obtain ⟨hx, hb, hr, hml, hown, hW, hlocks, hnm, hK, hZ⟩ := id C
  have hown : s.vm.findClass "NetJoinsModel" = some m.cls := hown
  have hA : ∀ q, s.heap.size ≤ q → fA h0 s.heap.size q := fun _ h => Or.inr h
  intro x1 x2 x4 x6 s0 s1 s2 s3 h H locs ls hw hl hR
  unfold wj_Mod_label_25 at hw
  obtain ⟨a3, ea3, t4, hw⟩ := hw
  refine W.eq (g2 := F0 m 25 ls [.int s0, .int s1, va_rf (some a3), va_rf s3]) (by rw [← ea3] <;> rfl) ?_
  refine mx_calli (va_runV (b := a3) (As := [.int s1, .int s0]) (rest := [va_rf s3]) ⟨hx, hb, hml, hown, hW⟩ (mt_Mod_refusal l D cs Z _ hw) (mx_cwV hW ok_Mod_refusal kw_1321 rfl rfl ⟨Nat.le_of_ble_eq_true rfl, Nat.le_of_ble_eq_true rfl⟩) (mx_preV hK hZ hA hR (ci := 8) rfl t4) rfl rfl hl.1 rfl (lv_room (by simp [mx_rf_cat, cat_i, cat_l])) d_Mod_label_25 ⟨Nat.le_of_ble_eq_true rfl, Nat.le_of_ble_eq_true rfl⟩) hR hA (fun r1 h2 H locs hw hR => ?_)
  try dsimp only at hw
  obtain ⟨a5, ea5, t6, hw⟩ := hw
  refine mx_put (ci := 8) (C := "NetJoinsModel") (T := F_Mod) (N := 33) (v := .int r1) (h' := sI h2 800 a5 r1) hx hb hW hown hK.1 hR (a := a5) ea5 t6 rfl i_Mod t_Mod t_Mod_ok n_Mod 0 0 (by decide) rfl kw_1135 (fun _ h9 => h9) rfl rfl rfl d_Mod_label_28 rfl (toE_sI (ci := 8) (k := 0) t6 rfl) (fun H locs hR => ?_)
  obtain ⟨h7, eh7⟩ : ∃ z, z = sI h2 800 a5 r1 := ⟨_, rfl⟩
  rw [← eh7] at hR
  have hw := hw h7 eh7
  refine mx_aload_n (r := some v0) hx hb d_Mod_label_31 rfl (lv_at hl 0 rfl) ?_
  obtain ⟨t8, hw⟩ := hw
  refine mx_get (ci := 8) (C := "NetJoinsModel") (T := F_Mod) (N := 33) hx hb hW hown hK.1 hR (a := v0) rfl t8 rfl i_Mod 0 0 (by decide) rfl kw_1135 (fun _ h9 => h9) d_Mod_label_32 ?_
  refine lv_if_eq (tgt := 40) hx hb d_Mod_label_35 (by decide) (fun c9 => ?_) (fun c9 => ?_)
  · have hw := hw.1 c9
    refine mx_aload_n (r := some v0) hx hb d_Mod_label_40 rfl (lv_at hl 0 rfl) ?_
    obtain ⟨t10, hw⟩ := hw
    refine mx_get (ci := 8) (C := "NetJoinsModel") (T := F_Mod) (N := 33) hx hb hW hown hK.1 hR (a := v0) rfl t10 rfl i_Mod 11 0 (by decide) rfl kw_1146 (fun _ h9 => h9) d_Mod_label_41 ?_
    refine lv_bipush (v := 60) hx hb d_Mod_label_44 (by decide) ?_
    refine lv_icmp_ne (tgt := 51) hx hb d_Mod_label_46 (by decide) (fun c11 => ?_) (fun c11 => ?_)
    · have hw := hw.1 c11
      refine mx_aload_n (r := some v0) hx hb d_Mod_label_51 rfl (lv_at hl 0 rfl) ?_
      obtain ⟨t12, hw⟩ := hw
      refine mx_get (ci := 8) (C := "NetJoinsModel") (T := F_Mod) (N := 33) hx hb hW hown hK.1 hR (a := v0) rfl t12 rfl i_Mod 12 2 (by decide) rfl kw_1147 (fun _ h9 => h9) d_Mod_label_52 ?_
      refine mx_aload_n (r := some v0) hx hb d_Mod_label_55 rfl (lv_at hl 0 rfl) ?_
      obtain ⟨t13, hw⟩ := hw
      refine mx_get (ci := 8) (C := "NetJoinsModel") (T := F_Mod) (N := 33) hx hb hW hown hK.1 hR (a := v0) rfl t13 rfl i_Mod 11 0 (by decide) rfl kw_1146 (fun _ h9 => h9) d_Mod_label_56 ?_
      refine lv_iload_n hx hb d_Mod_label_59 rfl (lv_at hl 1 rfl) ?_
      obtain ⟨a14, ea14, t15, t15i, hw⟩ := hw
      refine mx_iast hx hb hK.1 hR (a := a14) ea14 t15 t15i d_Mod_label_60 (fun H locs hR => ?_)
      obtain ⟨h16, eh16⟩ : ∃ z, z = sA h7 a14 (gI h7 811 v0).toNatClampNeg x1 := ⟨_, rfl⟩
      rw [← eh16] at hR
      have hw := hw h16 eh16
      refine mx_aload_n (r := some v0) hx hb d_Mod_label_61 rfl (lv_at hl 0 rfl) ?_
      obtain ⟨t17, hw⟩ := hw
      refine mx_get (ci := 8) (C := "NetJoinsModel") (T := F_Mod) (N := 33) hx hb hW hown hK.1 hR (a := v0) rfl t17 rfl i_Mod 13 2 (by decide) rfl kw_1148 (fun _ h9 => h9) d_Mod_label_62 ?_
      refine mx_aload_n (r := some v0) hx hb d_Mod_label_65 rfl (lv_at hl 0 rfl) ?_
      obtain ⟨t18, hw⟩ := hw
      refine mx_get (ci := 8) (C := "NetJoinsModel") (T := F_Mod) (N := 33) hx hb hW hown hK.1 hR (a := v0) rfl t18 rfl i_Mod 11 0 (by decide) rfl kw_1146 (fun _ h9 => h9) d_Mod_label_66 ?_
      refine lv_iload hx hb d_Mod_label_69 (lv_at hl 4 rfl) ?_
      obtain ⟨a19, ea19, t20, t20i, hw⟩ := hw
      refine mx_iast hx hb hK.1 hR (a := a19) ea19 t20 t20i d_Mod_label_71 (fun H locs hR => ?_)
      obtain ⟨h21, eh21⟩ : ∃ z, z = sA h16 a19 (gI h16 811 v0).toNatClampNeg x6 := ⟨_, rfl⟩
      rw [← eh21] at hR
      have hw := hw h21 eh21
      refine mx_aload_n (r := some v0) hx hb d_Mod_label_72 rfl (lv_at hl 0 rfl) ?_
      obtain ⟨t22, hw⟩ := hw
      refine mx_get (ci := 8) (C := "NetJoinsModel") (T := F_Mod) (N := 33) hx hb hW hown hK.1 hR (a := v0) rfl t22 rfl i_Mod 14 2 (by decide) rfl kw_1149 (fun _ h9 => h9) d_Mod_label_73 ?_
      refine lv_iconst (v := 2) hx hb d_Mod_label_76 (by decide) ?_
      refine mx_aload_n (r := some v0) hx hb d_Mod_label_77 rfl (lv_at hl 0 rfl) ?_
      obtain ⟨t23, hw⟩ := hw
      refine mx_get (ci := 8) (C := "NetJoinsModel") (T := F_Mod) (N := 33) hx hb hW hown hK.1 hR (a := v0) rfl t23 rfl i_Mod 11 0 (by decide) rfl kw_1146 (fun _ h9 => h9) d_Mod_label_78 ?_
      refine lv_imul hx hb d_Mod_label_81 ?_
      refine lv_lload_n hx hb d_Mod_label_82 rfl (lv_at hl 2 rfl) ?_
      obtain ⟨a24, ea24, t25, t25i, hw⟩ := hw
      refine mx_last hx hb hK.1 hR (a := a24) ea24 t25 t25i d_Mod_label_83 (fun H locs hR => ?_)
      obtain ⟨h26, eh26⟩ : ∃ z, z = sL h21 a24 ((2 : Int32) * (gI h21 811 v0)).toNatClampNeg x2 := ⟨_, rfl⟩
      rw [← eh26] at hR
      have hw := hw h26 eh26
      refine mx_aload_n (r := some v0) hx hb d_Mod_label_84 rfl (lv_at hl 0 rfl) ?_
      obtain ⟨t27, hw⟩ := hw
      refine mx_get (ci := 8) (C := "NetJoinsModel") (T := F_Mod) (N := 33) hx hb hW hown hK.1 hR (a := v0) rfl t27 rfl i_Mod 14 2 (by decide) rfl kw_1149 (fun _ h9 => h9) d_Mod_label_85 ?_
      refine lv_iconst (v := 2) hx hb d_Mod_label_88 (by decide) ?_
      refine mx_aload_n (r := some v0) hx hb d_Mod_label_89 rfl (lv_at hl 0 rfl) ?_
      obtain ⟨t28, hw⟩ := hw
      refine mx_get (ci := 8) (C := "NetJoinsModel") (T := F_Mod) (N := 33) hx hb hW hown hK.1 hR (a := v0) rfl t28 rfl i_Mod 11 0 (by decide) rfl kw_1146 (fun _ h9 => h9) d_Mod_label_90 ?_
      refine lv_imul hx hb d_Mod_label_93 ?_
      refine lv_iconst (v := 1) hx hb d_Mod_label_94 (by decide) ?_
      refine lv_iadd hx hb d_Mod_label_95 ?_
      refine lv_lload hx hb d_Mod_label_96 (lv_at hl 3 rfl) ?_
      obtain ⟨a29, ea29, t30, t30i, hw⟩ := hw
      refine mx_last hx hb hK.1 hR (a := a29) ea29 t30 t30i d_Mod_label_98 (fun H locs hR => ?_)
      obtain ⟨h31, eh31⟩ : ∃ z, z = sL h26 a29 (((2 : Int32) * (gI h26 811 v0)) + (1 : Int32)).toNatClampNeg x4 := ⟨_, rfl⟩
      rw [← eh31] at hR
      have hw := hw h31 eh31
      refine mx_aload_n (r := some v0) hx hb d_Mod_label_99 rfl (lv_at hl 0 rfl) ?_
      refine lv_dup hx hb d_Mod_label_100 (mx_rf_cat _) ?_
      obtain ⟨t32, hw⟩ := hw
      refine mx_get (ci := 8) (C := "NetJoinsModel") (T := F_Mod) (N := 33) hx hb hW hown hK.1 hR (a := v0) rfl t32 rfl i_Mod 11 0 (by decide) rfl kw_1146 (fun _ h9 => h9) d_Mod_label_101 ?_
      refine lv_iconst (v := 1) hx hb d_Mod_label_104 (by decide) ?_
      refine lv_iadd hx hb d_Mod_label_105 ?_
      obtain ⟨t33, hw⟩ := hw
      refine mx_put (ci := 8) (C := "NetJoinsModel") (T := F_Mod) (N := 33) (v := .int ((gI h31 811 v0) + (1 : Int32))) (h' := sI h31 811 v0 ((gI h31 811 v0) + (1 : Int32))) hx hb hW hown hK.1 hR (a := v0) rfl t33 rfl i_Mod t_Mod t_Mod_ok n_Mod 11 0 (by decide) rfl kw_1146 (fun _ h9 => h9) rfl rfl rfl d_Mod_label_106 rfl (toE_sI (ci := 8) (k := 11) t33 rfl) (fun H locs hR => ?_)
      obtain ⟨h34, eh34⟩ : ∃ z, z = sI h31 811 v0 ((gI h31 811 v0) + (1 : Int32)) := ⟨_, rfl⟩
      rw [← eh34] at hR
      have hw := hw h34 eh34
      refine mx_aload_n (r := some v0) hx hb d_Mod_label_109 rfl (lv_at hl 0 rfl) ?_
      obtain ⟨t37, hw⟩ := hw
      refine mx_callv (va_runV (b := v0) (As := []) (rest := []) ⟨hx, hb, hml, hown, hW⟩ (mt_Mod_anew l D cs Z _ hw) (mx_cwV hW ok_Mod_anew kw_1248 rfl rfl ⟨Nat.le_of_ble_eq_true rfl, Nat.le_of_ble_eq_true rfl⟩) (mx_preV hK hZ hA hR (ci := 8) rfl t37) rfl rfl hl.1 rfl (lv_room (Nat.le_of_ble_eq_true rfl)) d_Mod_label_110 ⟨Nat.le_of_ble_eq_true rfl, Nat.le_of_ble_eq_true rfl⟩) hR hA (fun h36 H locs hw hR => ?_)
      try dsimp only at hw
      refine mx_aload_n (r := some v0) hx hb d_Mod_label_113 rfl (lv_at hl 0 rfl) ?_
      obtain ⟨t38, hw⟩ := hw
      refine mx_get (ci := 8) (C := "NetJoinsModel") (T := F_Mod) (N := 33) hx hb hW hown hK.1 hR (a := v0) rfl t38 rfl i_Mod 11 0 (by decide) rfl kw_1146 (fun _ h9 => h9) d_Mod_label_114 ?_
      refine lv_iconst (v := 1) hx hb d_Mod_label_117 (by decide) ?_
      refine lv_isub hx hb d_Mod_label_118 ?_
      exact mx_iret hx hb hr hlocks hR hw d_Mod_label_119
    · have hw := hw.2 c11
      refine lv_iconst (v := (-1)) hx hb d_Mod_label_49 (by decide) ?_
      exact mx_iret hx hb hr hlocks hR hw d_Mod_label_50
  · have hw := hw.2 c9
    refine lv_iconst (v := 0) hx hb d_Mod_label_38 (by decide) ?_
    exact mx_iret hx hb hr hlocks hR hw d_Mod_label_39
set_option maxHeartbeats 4000000 in
set_option maxRecDepth 100000 in
theorem mn_Mod_label_24 {D : va_G} {cs : CS} {Z : Nat → Nat} {h0 : HS} {p : Program} {l : Launch} {e : Env} {s : State} {m : MethodId} {args : Array Value} {below : List Frame} {meth : Method} {c : Code} {v0 : Nat} (C : mC D cs Z h0 y_Mod_label c_Mod_label 7 (some .int) p s m args meth c) (post : Int32 → HS → Prop) : ∀ (x1 : Int32) (x2 : Int64) (x4 : Int64) (x6 : Int32) (s0 : Int32) (s1 : Option Nat) (s2 : Option Nat) (h : HS) (H : Heap) (locs : List Loc) (ls : Array Slot), wj_Mod_label_24 Z post v0 x1 x2 x4 x6 s0 s1 s2 h → lv_has ls 7 [(0, va_rf (some v0)), (1, .int x1), (2, .long x2), (4, .long x4), (6, .int x6)] → mR D cs (fA h0 s.heap.size) h s.heap H locs → W p l e ({ frames := 8, cells := 0, slots := 0, locals := 243 } : Room) s m args below meth c H locs 0 0 (MQ below (va_Qi post (mB D cs h0 s.heap.size) (fA h0 s.heap.size)) args s 0 0 (fA h0 s.heap.size)) (F0 m 24 ls [.int s0, va_rf s1, va_rf s2]) := by
  obtain ⟨hx, hb, hr, hml, hown, hW, hlocks, hnm, hK, hZ⟩ := id C
  have hown : s.vm.findClass "NetJoinsModel" = some m.cls := hown
  have hA : ∀ q, s.heap.size ≤ q → fA h0 s.heap.size q := fun _ h => Or.inr h
  intro x1 x2 x4 x6 s0 s1 s2 h H locs ls hw hl hR
  unfold wj_Mod_label_24 at hw
  refine lv_iconst (v := 0) hx hb d_Mod_label_24 (by decide) ?_
  exact mn_Mod_label_25 C post x1 x2 x4 x6 (0 : Int32) s0 s1 s2 _ _ _ _ hw (lv_sub hl [0, 1, 2, 3, 4] rfl) hR
set_option maxHeartbeats 4000000 in
set_option maxRecDepth 100000 in
theorem mt_Mod_label (l : Launch) (D : va_G) (cs : CS) (Z : Nat → Nat) (sz : Nat) {post : Int32 → HS → Prop} {h : HS} {v0 : Nat} {x1 : Int32} {x2 : Int64} {x4 : Int64} {x6 : Int32} (hw : wp_Mod_label Z post h v0 x1 x2 x4 x6) : Met l y_Mod_label (Cond.code y_Mod_label c_Mod_label 7 (some .int) :: WA) ({ frames := 8, cells := 0, slots := 0, locals := 243 } : Room) (mPc D cs Z h sz [va_rf (some v0), .int x1, .long x2, .long x4, .int x6]) (va_Qi post (mB D cs h sz) (fA h sz)) 0 0 (fA h sz) := by
  refine mx_met (fun sz => va_Qi post (mB D cs h sz) (fA h sz)) (by decide) (by simp [lg_sl, mx_rf_cat, cat_i, cat_l]) ?_
  intro p e s m args below meth c C hR ls hl
  have hl : lv_has ls 7 [(0, va_rf (some v0)), (1, .int x1), (2, .long x2), (4, .long x4), (6, .int x6)] := hl
  obtain ⟨hx, hb, hr, hml, hown, hW, hlocks, hnm, hK, hZ⟩ := id C
  have hown : s.vm.findClass "NetJoinsModel" = some m.cls := hown
  have hA : ∀ q, s.heap.size ≤ q → fA h s.heap.size q := fun _ h => Or.inr h
  unfold wp_Mod_label at hw
  refine mx_aload_n (r := some v0) hx hb d_Mod_label_0 rfl (lv_at hl 0 rfl) ?_
  refine mx_aload_n (r := some v0) hx hb d_Mod_label_1 rfl (lv_at hl 0 rfl) ?_
  refine lv_iload_n hx hb d_Mod_label_2 rfl (lv_at hl 1 rfl) ?_
  refine lv_lload_n hx hb d_Mod_label_3 rfl (lv_at hl 2 rfl) ?_
  refine lv_lload hx hb d_Mod_label_4 (lv_at hl 3 rfl) ?_
  refine mx_calli (va_runS (As := [.long x2, .long x4]) (rest := [.int x1, va_rf (some v0), va_rf (some v0)]) ⟨hx, hb, hml, hown, hW⟩ (mt_Mod_isPlace l D cs Z _ hw) (mx_cwS hW ok_Mod_isPlace kw_1316 rfl rfl ⟨Nat.le_of_ble_eq_true rfl, Nat.le_of_ble_eq_true rfl⟩) (mx_preS hK hZ hA hR) rfl rfl hl.1 rfl (lv_room (Nat.le_of_ble_eq_true rfl)) d_Mod_label_6 ⟨Nat.le_of_ble_eq_true rfl, Nat.le_of_ble_eq_true rfl⟩) hR hA (fun r1 h2 H locs hw hR => ?_)
  try dsimp only at hw
  refine lv_if_eq (tgt := 24) hx hb d_Mod_label_9 (by decide) (fun c3 => ?_) (fun c3 => ?_)
  · have hw := hw.1 c3
    exact mn_Mod_label_24 C post x1 x2 x4 x6 x1 (some v0) (some v0) _ _ _ _ hw (lv_sub hl [0, 1, 2, 3, 4] rfl) hR
  · have hw := hw.2 c3
    refine lv_iload hx hb d_Mod_label_12 (lv_at hl 4 rfl) ?_
    refine mx_calli (va_runS (As := [.int x6]) (rest := [.int x1, va_rf (some v0), va_rf (some v0)]) ⟨hx, hb, hml, hown, hW⟩ (mt_Mod_isName l D cs Z _ hw) (mx_cwS hW ok_Mod_isName kw_1333 rfl rfl ⟨Nat.le_of_ble_eq_true rfl, Nat.le_of_ble_eq_true rfl⟩) (mx_preS hK hZ hA hR) rfl rfl hl.1 rfl (lv_room (Nat.le_of_ble_eq_true rfl)) d_Mod_label_14 ⟨Nat.le_of_ble_eq_true rfl, Nat.le_of_ble_eq_true rfl⟩) hR hA (fun r4 h5 H locs hw hR => ?_)
    try dsimp only at hw
    refine lv_if_eq (tgt := 24) hx hb d_Mod_label_17 (by decide) (fun c6 => ?_) (fun c6 => ?_)
    · have hw := hw.1 c6
      exact mn_Mod_label_24 C post x1 x2 x4 x6 x1 (some v0) (some v0) _ _ _ _ hw (lv_sub hl [0, 1, 2, 3, 4] rfl) hR
    · have hw := hw.2 c6
      refine lv_iconst (v := 1) hx hb d_Mod_label_20 (by decide) ?_
      refine lv_goto (tgt := 25) hx hb d_Mod_label_21 (by decide) ?_
      exact mn_Mod_label_25 C post x1 x2 x4 x6 (1 : Int32) x1 (some v0) (some v0) _ _ _ _ hw (lv_sub hl [0, 1, 2, 3, 4] rfl) hR
set_option maxHeartbeats 4000000 in
set_option maxRecDepth 100000 in
theorem mn_Mod_pin_103 {D : va_G} {cs : CS} {Z : Nat → Nat} {h0 : HS} {p : Program} {l : Launch} {e : Env} {s : State} {m : MethodId} {args : Array Value} {below : List Frame} {meth : Method} {c : Code} {v0 : Nat} (C : mC D cs Z h0 y_Mod_pin c_Mod_pin 8 (some .int) p s m args meth c) (post : Int32 → HS → Prop) (K38 : Int32 × Int64 × Int64 × Int32 × Int32 × HS → Prop) (hK38 : ∀ (x1 : Int32) (x2 : Int64) (x4 : Int64) (x6 : Int32) (x7 : Int32) (h : HS) (H : Heap) (locs : List Loc) (ls : Array Slot), K38 (x1, x2, x4, x6, x7, h) → lv_has ls 8 [(0, va_rf (some v0)), (1, .int x1), (2, .long x2), (4, .long x4), (6, .int x6), (7, .int x7)] → mR D cs (fA h0 s.heap.size) h s.heap H locs → W p l e ({ frames := 8, cells := 0, slots := 0, locals := 243 } : Room) s m args below meth c H locs 0 0 (MQ below (va_Qi post (mB D cs h0 s.heap.size) (fA h0 s.heap.size)) args s 0 0 (fA h0 s.heap.size)) (F0 m 38 ls [])) : ∀ (x1 : Int32) (x2 : Int64) (x4 : Int64) (x6 : Int32) (x7 : Int32) (h : HS) (H : Heap) (locs : List Loc) (ls : Array Slot), wj_Mod_pin_103 Z post K38 v0 x1 x2 x4 x6 x7 h → lv_has ls 8 [(0, va_rf (some v0)), (1, .int x1), (2, .long x2), (4, .long x4), (6, .int x6), (7, .int x7)] → mR D cs (fA h0 s.heap.size) h s.heap H locs → W p l e ({ frames := 8, cells := 0, slots := 0, locals := 243 } : Room) s m args below meth c H locs 0 0 (MQ below (va_Qi post (mB D cs h0 s.heap.size) (fA h0 s.heap.size)) args s 0 0 (fA h0 s.heap.size)) (F0 m 103 ls []) := by
  obtain ⟨hx, hb, hr, hml, hown, hW, hlocks, hnm, hK, hZ⟩ := id C
  have hown : s.vm.findClass "NetJoinsModel" = some m.cls := hown
  have hA : ∀ q, s.heap.size ≤ q → fA h0 s.heap.size q := fun _ h => Or.inr h
  intro x1 x2 x4 x6 x7 h H locs ls hw hl hR
  unfold wj_Mod_pin_103 at hw
  obtain ⟨y1, ey1⟩ : ∃ y : Int32, y = x7 + (1 : Int32) := ⟨_, rfl⟩
  have hw := hw y1 ey1
  refine lv_iinc (v := y1) (lv' := [(7, .int y1), (0, va_rf (some v0)), (1, .int x1), (2, .long x2), (4, .long x4), (6, .int x6)]) hx hb d_Mod_pin_103 hl (k := 5) rfl (by rw [ey1]; rfl) (by decide) rfl (fun ls hl => ?_)
  refine lv_goto (tgt := 38) hx hb d_Mod_pin_106 (by decide) ?_
  exact hK38 x1 x2 x4 x6 y1 _ _ _ _ hw (lv_sub hl [1, 2, 3, 4, 5, 0] rfl) hR
set_option maxHeartbeats 4000000 in
set_option maxRecDepth 100000 in
theorem mn_Mod_pin_38 {D : va_G} {cs : CS} {Z : Nat → Nat} {h0 : HS} {p : Program} {l : Launch} {e : Env} {s : State} {m : MethodId} {args : Array Value} {below : List Frame} {meth : Method} {c : Code} {v0 : Nat} (C : mC D cs Z h0 y_Mod_pin c_Mod_pin 8 (some .int) p s m args meth c) (post : Int32 → HS → Prop) : ∀ (n : Nat) (x1 : Int32) (x2 : Int64) (x4 : Int64) (x6 : Int32) (x7 : Int32) (h : HS) (H : Heap) (locs : List Loc) (ls : Array Slot), lpF (wb_Mod_pin_38 Z post v0) n (x1, x2, x4, x6, x7, h) → lv_has ls 8 [(0, va_rf (some v0)), (1, .int x1), (2, .long x2), (4, .long x4), (6, .int x6), (7, .int x7)] → mR D cs (fA h0 s.heap.size) h s.heap H locs → W p l e ({ frames := 8, cells := 0, slots := 0, locals := 243 } : Room) s m args below meth c H locs 0 0 (MQ below (va_Qi post (mB D cs h0 s.heap.size) (fA h0 s.heap.size)) args s 0 0 (fA h0 s.heap.size)) (F0 m 38 ls []) := by
  obtain ⟨hx, hb, hr, hml, hown, hW, hlocks, hnm, hK, hZ⟩ := id C
  have hown : s.vm.findClass "NetJoinsModel" = some m.cls := hown
  have hA : ∀ q, s.heap.size ≤ q → fA h0 s.heap.size q := fun _ h => Or.inr h
  intro n
  induction n with
  | zero => intro x1 x2 x4 x6 x7 h H locs ls hw; exact hw.elim
  | succ n ih =>
    intro x1 x2 x4 x6 x7 h H locs ls hw hl hR
    have hw : wb_Mod_pin_38 Z post v0 (lpF (wb_Mod_pin_38 Z post v0) n) (x1, x2, x4, x6, x7, h) := hw
    unfold wb_Mod_pin_38 at hw
    dsimp only at hw
    refine lv_iload hx hb d_Mod_pin_38 (lv_at hl 5 rfl) ?_
    refine mx_aload_n (r := some v0) hx hb d_Mod_pin_40 rfl (lv_at hl 0 rfl) ?_
    obtain ⟨t1, hw⟩ := hw
    refine mx_get (ci := 8) (C := "NetJoinsModel") (T := F_Mod) (N := 33) hx hb hW hown hK.1 hR (a := v0) rfl t1 rfl i_Mod 15 0 (by decide) rfl kw_1150 (fun _ h9 => h9) d_Mod_pin_41 ?_
    refine lv_icmp_ge (tgt := 109) hx hb d_Mod_pin_44 (by decide) (fun c2 => ?_) (fun c2 => ?_)
    · have hw := hw.1 c2
      refine mx_aload_n (r := some v0) hx hb d_Mod_pin_109 rfl (lv_at hl 0 rfl) ?_
      obtain ⟨t3, hw⟩ := hw
      refine mx_get (ci := 8) (C := "NetJoinsModel") (T := F_Mod) (N := 33) hx hb hW hown hK.1 hR (a := v0) rfl t3 rfl i_Mod 16 2 (by decide) rfl kw_1151 (fun _ h9 => h9) d_Mod_pin_110 ?_
      refine mx_aload_n (r := some v0) hx hb d_Mod_pin_113 rfl (lv_at hl 0 rfl) ?_
      obtain ⟨t4, hw⟩ := hw
      refine mx_get (ci := 8) (C := "NetJoinsModel") (T := F_Mod) (N := 33) hx hb hW hown hK.1 hR (a := v0) rfl t4 rfl i_Mod 15 0 (by decide) rfl kw_1150 (fun _ h9 => h9) d_Mod_pin_114 ?_
      refine lv_iload_n hx hb d_Mod_pin_117 rfl (lv_at hl 1 rfl) ?_
      obtain ⟨a5, ea5, t6, t6i, hw⟩ := hw
      refine mx_iast hx hb hK.1 hR (a := a5) ea5 t6 t6i d_Mod_pin_118 (fun H locs hR => ?_)
      obtain ⟨h7, eh7⟩ : ∃ z, z = sA h a5 (gI h 815 v0).toNatClampNeg x1 := ⟨_, rfl⟩
      rw [← eh7] at hR
      have hw := hw h7 eh7
      refine mx_aload_n (r := some v0) hx hb d_Mod_pin_119 rfl (lv_at hl 0 rfl) ?_
      obtain ⟨t8, hw⟩ := hw
      refine mx_get (ci := 8) (C := "NetJoinsModel") (T := F_Mod) (N := 33) hx hb hW hown hK.1 hR (a := v0) rfl t8 rfl i_Mod 17 2 (by decide) rfl kw_1152 (fun _ h9 => h9) d_Mod_pin_120 ?_
      refine mx_aload_n (r := some v0) hx hb d_Mod_pin_123 rfl (lv_at hl 0 rfl) ?_
      obtain ⟨t9, hw⟩ := hw
      refine mx_get (ci := 8) (C := "NetJoinsModel") (T := F_Mod) (N := 33) hx hb hW hown hK.1 hR (a := v0) rfl t9 rfl i_Mod 15 0 (by decide) rfl kw_1150 (fun _ h9 => h9) d_Mod_pin_124 ?_
      refine lv_iload hx hb d_Mod_pin_127 (lv_at hl 4 rfl) ?_
      obtain ⟨a10, ea10, t11, t11i, hw⟩ := hw
      refine mx_iast hx hb hK.1 hR (a := a10) ea10 t11 t11i d_Mod_pin_129 (fun H locs hR => ?_)
      obtain ⟨h12, eh12⟩ : ∃ z, z = sA h7 a10 (gI h7 815 v0).toNatClampNeg x6 := ⟨_, rfl⟩
      rw [← eh12] at hR
      have hw := hw h12 eh12
      refine mx_aload_n (r := some v0) hx hb d_Mod_pin_130 rfl (lv_at hl 0 rfl) ?_
      obtain ⟨t13, hw⟩ := hw
      refine mx_get (ci := 8) (C := "NetJoinsModel") (T := F_Mod) (N := 33) hx hb hW hown hK.1 hR (a := v0) rfl t13 rfl i_Mod 18 2 (by decide) rfl kw_1153 (fun _ h9 => h9) d_Mod_pin_131 ?_
      refine lv_iconst (v := 2) hx hb d_Mod_pin_134 (by decide) ?_
      refine mx_aload_n (r := some v0) hx hb d_Mod_pin_135 rfl (lv_at hl 0 rfl) ?_
      obtain ⟨t14, hw⟩ := hw
      refine mx_get (ci := 8) (C := "NetJoinsModel") (T := F_Mod) (N := 33) hx hb hW hown hK.1 hR (a := v0) rfl t14 rfl i_Mod 15 0 (by decide) rfl kw_1150 (fun _ h9 => h9) d_Mod_pin_136 ?_
      refine lv_imul hx hb d_Mod_pin_139 ?_
      refine lv_lload_n hx hb d_Mod_pin_140 rfl (lv_at hl 2 rfl) ?_
      obtain ⟨a15, ea15, t16, t16i, hw⟩ := hw
      refine mx_last hx hb hK.1 hR (a := a15) ea15 t16 t16i d_Mod_pin_141 (fun H locs hR => ?_)
      obtain ⟨h17, eh17⟩ : ∃ z, z = sL h12 a15 ((2 : Int32) * (gI h12 815 v0)).toNatClampNeg x2 := ⟨_, rfl⟩
      rw [← eh17] at hR
      have hw := hw h17 eh17
      refine mx_aload_n (r := some v0) hx hb d_Mod_pin_142 rfl (lv_at hl 0 rfl) ?_
      obtain ⟨t18, hw⟩ := hw
      refine mx_get (ci := 8) (C := "NetJoinsModel") (T := F_Mod) (N := 33) hx hb hW hown hK.1 hR (a := v0) rfl t18 rfl i_Mod 18 2 (by decide) rfl kw_1153 (fun _ h9 => h9) d_Mod_pin_143 ?_
      refine lv_iconst (v := 2) hx hb d_Mod_pin_146 (by decide) ?_
      refine mx_aload_n (r := some v0) hx hb d_Mod_pin_147 rfl (lv_at hl 0 rfl) ?_
      obtain ⟨t19, hw⟩ := hw
      refine mx_get (ci := 8) (C := "NetJoinsModel") (T := F_Mod) (N := 33) hx hb hW hown hK.1 hR (a := v0) rfl t19 rfl i_Mod 15 0 (by decide) rfl kw_1150 (fun _ h9 => h9) d_Mod_pin_148 ?_
      refine lv_imul hx hb d_Mod_pin_151 ?_
      refine lv_iconst (v := 1) hx hb d_Mod_pin_152 (by decide) ?_
      refine lv_iadd hx hb d_Mod_pin_153 ?_
      refine lv_lload hx hb d_Mod_pin_154 (lv_at hl 3 rfl) ?_
      obtain ⟨a20, ea20, t21, t21i, hw⟩ := hw
      refine mx_last hx hb hK.1 hR (a := a20) ea20 t21 t21i d_Mod_pin_156 (fun H locs hR => ?_)
      obtain ⟨h22, eh22⟩ : ∃ z, z = sL h17 a20 (((2 : Int32) * (gI h17 815 v0)) + (1 : Int32)).toNatClampNeg x4 := ⟨_, rfl⟩
      rw [← eh22] at hR
      have hw := hw h22 eh22
      refine mx_aload_n (r := some v0) hx hb d_Mod_pin_157 rfl (lv_at hl 0 rfl) ?_
      refine lv_dup hx hb d_Mod_pin_158 (mx_rf_cat _) ?_
      obtain ⟨t23, hw⟩ := hw
      refine mx_get (ci := 8) (C := "NetJoinsModel") (T := F_Mod) (N := 33) hx hb hW hown hK.1 hR (a := v0) rfl t23 rfl i_Mod 15 0 (by decide) rfl kw_1150 (fun _ h9 => h9) d_Mod_pin_159 ?_
      refine lv_iconst (v := 1) hx hb d_Mod_pin_162 (by decide) ?_
      refine lv_iadd hx hb d_Mod_pin_163 ?_
      obtain ⟨t24, hw⟩ := hw
      refine mx_put (ci := 8) (C := "NetJoinsModel") (T := F_Mod) (N := 33) (v := .int ((gI h22 815 v0) + (1 : Int32))) (h' := sI h22 815 v0 ((gI h22 815 v0) + (1 : Int32))) hx hb hW hown hK.1 hR (a := v0) rfl t24 rfl i_Mod t_Mod t_Mod_ok n_Mod 15 0 (by decide) rfl kw_1150 (fun _ h9 => h9) rfl rfl rfl d_Mod_pin_164 rfl (toE_sI (ci := 8) (k := 15) t24 rfl) (fun H locs hR => ?_)
      obtain ⟨h25, eh25⟩ : ∃ z, z = sI h22 815 v0 ((gI h22 815 v0) + (1 : Int32)) := ⟨_, rfl⟩
      rw [← eh25] at hR
      have hw := hw h25 eh25
      refine mx_aload_n (r := some v0) hx hb d_Mod_pin_167 rfl (lv_at hl 0 rfl) ?_
      obtain ⟨t28, hw⟩ := hw
      refine mx_callv (va_runV (b := v0) (As := []) (rest := []) ⟨hx, hb, hml, hown, hW⟩ (mt_Mod_anew l D cs Z _ hw) (mx_cwV hW ok_Mod_anew kw_1248 rfl rfl ⟨Nat.le_of_ble_eq_true rfl, Nat.le_of_ble_eq_true rfl⟩) (mx_preV hK hZ hA hR (ci := 8) rfl t28) rfl rfl hl.1 rfl (lv_room (Nat.le_of_ble_eq_true rfl)) d_Mod_pin_168 ⟨Nat.le_of_ble_eq_true rfl, Nat.le_of_ble_eq_true rfl⟩) hR hA (fun h27 H locs hw hR => ?_)
      try dsimp only at hw
      refine mx_aload_n (r := some v0) hx hb d_Mod_pin_171 rfl (lv_at hl 0 rfl) ?_
      obtain ⟨t29, hw⟩ := hw
      refine mx_get (ci := 8) (C := "NetJoinsModel") (T := F_Mod) (N := 33) hx hb hW hown hK.1 hR (a := v0) rfl t29 rfl i_Mod 15 0 (by decide) rfl kw_1150 (fun _ h9 => h9) d_Mod_pin_172 ?_
      refine lv_iconst (v := 1) hx hb d_Mod_pin_175 (by decide) ?_
      refine lv_isub hx hb d_Mod_pin_176 ?_
      exact mx_iret hx hb hr hlocks hR hw d_Mod_pin_177
    · have hw := hw.2 c2
      refine mx_aload_n (r := some v0) hx hb d_Mod_pin_47 rfl (lv_at hl 0 rfl) ?_
      obtain ⟨t30, hw⟩ := hw
      refine mx_get (ci := 8) (C := "NetJoinsModel") (T := F_Mod) (N := 33) hx hb hW hown hK.1 hR (a := v0) rfl t30 rfl i_Mod 16 2 (by decide) rfl kw_1151 (fun _ h9 => h9) d_Mod_pin_48 ?_
      refine lv_iload hx hb d_Mod_pin_51 (lv_at hl 5 rfl) ?_
      obtain ⟨a31, ea31, t32, t32i, hw⟩ := hw
      refine mx_iald hx hb hK.1 hR (a := a31) ea31 t32 t32i d_Mod_pin_53 ?_
      refine lv_iload_n hx hb d_Mod_pin_54 rfl (lv_at hl 1 rfl) ?_
      refine lv_icmp_ne (tgt := 103) hx hb d_Mod_pin_55 (by decide) (fun c33 => ?_) (fun c33 => ?_)
      · have hw := hw.1 c33
        exact mn_Mod_pin_103 C post (lpF (wb_Mod_pin_38 Z post v0) n) ih x1 x2 x4 x6 x7 _ _ _ _ hw (lv_sub hl [0, 1, 2, 3, 4, 5] rfl) hR
      · have hw := hw.2 c33
        refine mx_aload_n (r := some v0) hx hb d_Mod_pin_58 rfl (lv_at hl 0 rfl) ?_
        obtain ⟨t34, hw⟩ := hw
        refine mx_get (ci := 8) (C := "NetJoinsModel") (T := F_Mod) (N := 33) hx hb hW hown hK.1 hR (a := v0) rfl t34 rfl i_Mod 17 2 (by decide) rfl kw_1152 (fun _ h9 => h9) d_Mod_pin_59 ?_
        refine lv_iload hx hb d_Mod_pin_62 (lv_at hl 5 rfl) ?_
        obtain ⟨a35, ea35, t36, t36i, hw⟩ := hw
        refine mx_iald hx hb hK.1 hR (a := a35) ea35 t36 t36i d_Mod_pin_64 ?_
        refine lv_iload hx hb d_Mod_pin_65 (lv_at hl 4 rfl) ?_
        refine lv_icmp_ne (tgt := 103) hx hb d_Mod_pin_67 (by decide) (fun c37 => ?_) (fun c37 => ?_)
        · have hw := hw.1 c37
          exact mn_Mod_pin_103 C post (lpF (wb_Mod_pin_38 Z post v0) n) ih x1 x2 x4 x6 x7 _ _ _ _ hw (lv_sub hl [0, 1, 2, 3, 4, 5] rfl) hR
        · have hw := hw.2 c37
          refine mx_aload_n (r := some v0) hx hb d_Mod_pin_70 rfl (lv_at hl 0 rfl) ?_
          obtain ⟨t38, hw⟩ := hw
          refine mx_get (ci := 8) (C := "NetJoinsModel") (T := F_Mod) (N := 33) hx hb hW hown hK.1 hR (a := v0) rfl t38 rfl i_Mod 18 2 (by decide) rfl kw_1153 (fun _ h9 => h9) d_Mod_pin_71 ?_
          refine lv_iconst (v := 2) hx hb d_Mod_pin_74 (by decide) ?_
          refine lv_iload hx hb d_Mod_pin_75 (lv_at hl 5 rfl) ?_
          refine lv_imul hx hb d_Mod_pin_77 ?_
          obtain ⟨a39, ea39, t40, t40i, hw⟩ := hw
          refine mx_lald hx hb hK.1 hR (a := a39) ea39 t40 t40i d_Mod_pin_78 ?_
          refine lv_lload_n hx hb d_Mod_pin_79 rfl (lv_at hl 2 rfl) ?_
          refine W.lcmp hx hb d_Mod_pin_80 ?_
          refine lv_if_ne (tgt := 103) hx hb d_Mod_pin_81 (by decide) (fun c41 => ?_) (fun c41 => ?_)
          · have hw := hw.1 c41
            exact mn_Mod_pin_103 C post (lpF (wb_Mod_pin_38 Z post v0) n) ih x1 x2 x4 x6 x7 _ _ _ _ hw (lv_sub hl [0, 1, 2, 3, 4, 5] rfl) hR
          · have hw := hw.2 c41
            refine mx_aload_n (r := some v0) hx hb d_Mod_pin_84 rfl (lv_at hl 0 rfl) ?_
            obtain ⟨t42, hw⟩ := hw
            refine mx_get (ci := 8) (C := "NetJoinsModel") (T := F_Mod) (N := 33) hx hb hW hown hK.1 hR (a := v0) rfl t42 rfl i_Mod 18 2 (by decide) rfl kw_1153 (fun _ h9 => h9) d_Mod_pin_85 ?_
            refine lv_iconst (v := 2) hx hb d_Mod_pin_88 (by decide) ?_
            refine lv_iload hx hb d_Mod_pin_89 (lv_at hl 5 rfl) ?_
            refine lv_imul hx hb d_Mod_pin_91 ?_
            refine lv_iconst (v := 1) hx hb d_Mod_pin_92 (by decide) ?_
            refine lv_iadd hx hb d_Mod_pin_93 ?_
            obtain ⟨a43, ea43, t44, t44i, hw⟩ := hw
            refine mx_lald hx hb hK.1 hR (a := a43) ea43 t44 t44i d_Mod_pin_94 ?_
            refine lv_lload hx hb d_Mod_pin_95 (lv_at hl 3 rfl) ?_
            refine W.lcmp hx hb d_Mod_pin_97 ?_
            refine lv_if_ne (tgt := 103) hx hb d_Mod_pin_98 (by decide) (fun c45 => ?_) (fun c45 => ?_)
            · have hw := hw.1 c45
              exact mn_Mod_pin_103 C post (lpF (wb_Mod_pin_38 Z post v0) n) ih x1 x2 x4 x6 x7 _ _ _ _ hw (lv_sub hl [0, 1, 2, 3, 4, 5] rfl) hR
            · have hw := hw.2 c45
              refine lv_iconst (v := (-1)) hx hb d_Mod_pin_101 (by decide) ?_
              exact mx_iret hx hb hr hlocks hR hw d_Mod_pin_102
set_option maxHeartbeats 4000000 in
set_option maxRecDepth 100000 in
theorem mt_Mod_pin (l : Launch) (D : va_G) (cs : CS) (Z : Nat → Nat) (sz : Nat) {post : Int32 → HS → Prop} {h : HS} {v0 : Nat} {x1 : Int32} {x2 : Int64} {x4 : Int64} {x6 : Int32} (hw : wp_Mod_pin Z post h v0 x1 x2 x4 x6) : Met l y_Mod_pin (Cond.code y_Mod_pin c_Mod_pin 8 (some .int) :: WA) ({ frames := 8, cells := 0, slots := 0, locals := 243 } : Room) (mPc D cs Z h sz [va_rf (some v0), .int x1, .long x2, .long x4, .int x6]) (va_Qi post (mB D cs h sz) (fA h sz)) 0 0 (fA h sz) := by
  refine mx_met (fun sz => va_Qi post (mB D cs h sz) (fA h sz)) (by decide) (by simp [lg_sl, mx_rf_cat, cat_i, cat_l]) ?_
  intro p e s m args below meth c C hR ls hl
  have hl : lv_has ls 8 [(0, va_rf (some v0)), (1, .int x1), (2, .long x2), (4, .long x4), (6, .int x6)] := hl
  obtain ⟨hx, hb, hr, hml, hown, hW, hlocks, hnm, hK, hZ⟩ := id C
  have hown : s.vm.findClass "NetJoinsModel" = some m.cls := hown
  have hA : ∀ q, s.heap.size ≤ q → fA h s.heap.size q := fun _ h => Or.inr h
  unfold wp_Mod_pin at hw
  refine mx_aload_n (r := some v0) hx hb d_Mod_pin_0 rfl (lv_at hl 0 rfl) ?_
  refine mx_aload_n (r := some v0) hx hb d_Mod_pin_1 rfl (lv_at hl 0 rfl) ?_
  refine lv_iload_n hx hb d_Mod_pin_2 rfl (lv_at hl 1 rfl) ?_
  refine lv_lload_n hx hb d_Mod_pin_3 rfl (lv_at hl 2 rfl) ?_
  refine lv_lload hx hb d_Mod_pin_4 (lv_at hl 3 rfl) ?_
  refine mx_calli (va_runS (As := [.long x2, .long x4]) (rest := [.int x1, va_rf (some v0), va_rf (some v0)]) ⟨hx, hb, hml, hown, hW⟩ (mt_Mod_isPlace l D cs Z _ hw) (mx_cwS hW ok_Mod_isPlace kw_1316 rfl rfl ⟨Nat.le_of_ble_eq_true rfl, Nat.le_of_ble_eq_true rfl⟩) (mx_preS hK hZ hA hR) rfl rfl hl.1 rfl (lv_room (Nat.le_of_ble_eq_true rfl)) d_Mod_pin_6 ⟨Nat.le_of_ble_eq_true rfl, Nat.le_of_ble_eq_true rfl⟩) hR hA (fun r1 h2 H locs hw hR => ?_)
  try dsimp only at hw
  obtain ⟨t5, hw⟩ := hw
  refine mx_calli (va_runV (b := v0) (As := [.int x1, .int r1]) (rest := [va_rf (some v0)]) ⟨hx, hb, hml, hown, hW⟩ (mt_Mod_refusal l D cs Z _ hw) (mx_cwV hW ok_Mod_refusal kw_1321 rfl rfl ⟨Nat.le_of_ble_eq_true rfl, Nat.le_of_ble_eq_true rfl⟩) (mx_preV hK hZ hA hR (ci := 8) rfl t5) rfl rfl hl.1 rfl (lv_room (Nat.le_of_ble_eq_true rfl)) d_Mod_pin_9 ⟨Nat.le_of_ble_eq_true rfl, Nat.le_of_ble_eq_true rfl⟩) hR hA (fun r3 h4 H locs hw hR => ?_)
  try dsimp only at hw
  obtain ⟨t6, hw⟩ := hw
  refine mx_put (ci := 8) (C := "NetJoinsModel") (T := F_Mod) (N := 33) (v := .int r3) (h' := sI h4 800 v0 r3) hx hb hW hown hK.1 hR (a := v0) rfl t6 rfl i_Mod t_Mod t_Mod_ok n_Mod 0 0 (by decide) rfl kw_1135 (fun _ h9 => h9) rfl rfl rfl d_Mod_pin_12 rfl (toE_sI (ci := 8) (k := 0) t6 rfl) (fun H locs hR => ?_)
  obtain ⟨h7, eh7⟩ : ∃ z, z = sI h4 800 v0 r3 := ⟨_, rfl⟩
  rw [← eh7] at hR
  have hw := hw h7 eh7
  refine mx_aload_n (r := some v0) hx hb d_Mod_pin_15 rfl (lv_at hl 0 rfl) ?_
  obtain ⟨t8, hw⟩ := hw
  refine mx_get (ci := 8) (C := "NetJoinsModel") (T := F_Mod) (N := 33) hx hb hW hown hK.1 hR (a := v0) rfl t8 rfl i_Mod 0 0 (by decide) rfl kw_1135 (fun _ h9 => h9) d_Mod_pin_16 ?_
  refine lv_if_eq (tgt := 24) hx hb d_Mod_pin_19 (by decide) (fun c9 => ?_) (fun c9 => ?_)
  · have hw := hw.1 c9
    refine mx_aload_n (r := some v0) hx hb d_Mod_pin_24 rfl (lv_at hl 0 rfl) ?_
    obtain ⟨t10, hw⟩ := hw
    refine mx_get (ci := 8) (C := "NetJoinsModel") (T := F_Mod) (N := 33) hx hb hW hown hK.1 hR (a := v0) rfl t10 rfl i_Mod 15 0 (by decide) rfl kw_1150 (fun _ h9 => h9) d_Mod_pin_25 ?_
    refine lv_bipush (v := 60) hx hb d_Mod_pin_28 (by decide) ?_
    refine lv_icmp_ne (tgt := 35) hx hb d_Mod_pin_30 (by decide) (fun c11 => ?_) (fun c11 => ?_)
    · have hw := hw.1 c11
      refine lv_iconst (v := 0) hx hb d_Mod_pin_35 (by decide) ?_
      refine lv_istore (i := 7) (lv' := [(7, .int (0 : Int32)), (0, va_rf (some v0)), (1, .int x1), (2, .long x2), (4, .long x4), (6, .int x6)]) hx hb d_Mod_pin_36 hl (by decide) rfl (fun ls hl => ?_)
      obtain ⟨n9, hw⟩ := hw
      exact mn_Mod_pin_38 C post n9 x1 x2 x4 x6 (0 : Int32) _ _ _ _ hw (lv_sub hl [1, 2, 3, 4, 5, 0] rfl) hR
    · have hw := hw.2 c11
      refine lv_iconst (v := (-1)) hx hb d_Mod_pin_33 (by decide) ?_
      exact mx_iret hx hb hr hlocks hR hw d_Mod_pin_34
  · have hw := hw.2 c9
    refine lv_iconst (v := 0) hx hb d_Mod_pin_22 (by decide) ?_
    exact mx_iret hx hb hr hlocks hR hw d_Mod_pin_23
set_option maxHeartbeats 4000000 in
set_option maxRecDepth 100000 in
theorem mn_Mod_port_156 {D : va_G} {cs : CS} {Z : Nat → Nat} {h0 : HS} {p : Program} {l : Launch} {e : Env} {s : State} {m : MethodId} {args : Array Value} {below : List Frame} {meth : Method} {c : Code} {v0 : Nat} (C : mC D cs Z h0 y_Mod_port c_Mod_port 6 (some .boolean) p s m args meth c) (post : Int32 → HS → Prop) (K102 : Int32 × Int32 × Int32 × Int32 × HS → Prop) (hK102 : ∀ (x1 : Int32) (x2 : Int32) (x3 : Int32) (x5 : Int32) (h : HS) (H : Heap) (locs : List Loc) (ls : Array Slot), K102 (x1, x2, x3, x5, h) → lv_has ls 6 [(0, va_rf (some v0)), (1, .int x1), (2, .int x2), (3, .int x3), (5, .int x5)] → mR D cs (fA h0 s.heap.size) h s.heap H locs → W p l e ({ frames := 8, cells := 0, slots := 0, locals := 243 } : Room) s m args below meth c H locs 0 0 (MQ below (va_Qi post (mB D cs h0 s.heap.size) (fA h0 s.heap.size)) args s 0 0 (fA h0 s.heap.size)) (F0 m 102 ls [])) : ∀ (x1 : Int32) (x2 : Int32) (x3 : Int32) (x5 : Int32) (h : HS) (H : Heap) (locs : List Loc) (ls : Array Slot), wj_Mod_port_156 Z post K102 v0 x1 x2 x3 x5 h → lv_has ls 6 [(0, va_rf (some v0)), (1, .int x1), (2, .int x2), (3, .int x3), (5, .int x5)] → mR D cs (fA h0 s.heap.size) h s.heap H locs → W p l e ({ frames := 8, cells := 0, slots := 0, locals := 243 } : Room) s m args below meth c H locs 0 0 (MQ below (va_Qi post (mB D cs h0 s.heap.size) (fA h0 s.heap.size)) args s 0 0 (fA h0 s.heap.size)) (F0 m 156 ls []) := by
  obtain ⟨hx, hb, hr, hml, hown, hW, hlocks, hnm, hK, hZ⟩ := id C
  have hown : s.vm.findClass "NetJoinsModel" = some m.cls := hown
  have hA : ∀ q, s.heap.size ≤ q → fA h0 s.heap.size q := fun _ h => Or.inr h
  intro x1 x2 x3 x5 h H locs ls hw hl hR
  unfold wj_Mod_port_156 at hw
  obtain ⟨y1, ey1⟩ : ∃ y : Int32, y = x5 + (1 : Int32) := ⟨_, rfl⟩
  have hw := hw y1 ey1
  refine lv_iinc (v := y1) (lv' := [(5, .int y1), (0, va_rf (some v0)), (1, .int x1), (2, .int x2), (3, .int x3)]) hx hb d_Mod_port_156 hl (k := 4) rfl (by rw [ey1]; rfl) (by decide) rfl (fun ls hl => ?_)
  refine lv_goto (tgt := 102) hx hb d_Mod_port_159 (by decide) ?_
  exact hK102 x1 x2 x3 y1 _ _ _ _ hw (lv_sub hl [1, 2, 3, 4, 0] rfl) hR
set_option maxHeartbeats 4000000 in
set_option maxRecDepth 100000 in
theorem mn_Mod_port_102 {D : va_G} {cs : CS} {Z : Nat → Nat} {h0 : HS} {p : Program} {l : Launch} {e : Env} {s : State} {m : MethodId} {args : Array Value} {below : List Frame} {meth : Method} {c : Code} {v0 : Nat} (C : mC D cs Z h0 y_Mod_port c_Mod_port 6 (some .boolean) p s m args meth c) (post : Int32 → HS → Prop) : ∀ (n : Nat) (x1 : Int32) (x2 : Int32) (x3 : Int32) (x5 : Int32) (h : HS) (H : Heap) (locs : List Loc) (ls : Array Slot), lpF (wb_Mod_port_102 Z post v0) n (x1, x2, x3, x5, h) → lv_has ls 6 [(0, va_rf (some v0)), (1, .int x1), (2, .int x2), (3, .int x3), (5, .int x5)] → mR D cs (fA h0 s.heap.size) h s.heap H locs → W p l e ({ frames := 8, cells := 0, slots := 0, locals := 243 } : Room) s m args below meth c H locs 0 0 (MQ below (va_Qi post (mB D cs h0 s.heap.size) (fA h0 s.heap.size)) args s 0 0 (fA h0 s.heap.size)) (F0 m 102 ls []) := by
  obtain ⟨hx, hb, hr, hml, hown, hW, hlocks, hnm, hK, hZ⟩ := id C
  have hown : s.vm.findClass "NetJoinsModel" = some m.cls := hown
  have hA : ∀ q, s.heap.size ≤ q → fA h0 s.heap.size q := fun _ h => Or.inr h
  intro n
  induction n with
  | zero => intro x1 x2 x3 x5 h H locs ls hw; exact hw.elim
  | succ n ih =>
    intro x1 x2 x3 x5 h H locs ls hw hl hR
    have hw : wb_Mod_port_102 Z post v0 (lpF (wb_Mod_port_102 Z post v0) n) (x1, x2, x3, x5, h) := hw
    unfold wb_Mod_port_102 at hw
    dsimp only at hw
    refine lv_iload hx hb d_Mod_port_102 (lv_at hl 4 rfl) ?_
    refine mx_aload_n (r := some v0) hx hb d_Mod_port_104 rfl (lv_at hl 0 rfl) ?_
    obtain ⟨t1, hw⟩ := hw
    refine mx_get (ci := 8) (C := "NetJoinsModel") (T := F_Mod) (N := 33) hx hb hW hown hK.1 hR (a := v0) rfl t1 rfl i_Mod 20 0 (by decide) rfl kw_1155 (fun _ h9 => h9) d_Mod_port_105 ?_
    refine lv_icmp_ge (tgt := 162) hx hb d_Mod_port_108 (by decide) (fun c2 => ?_) (fun c2 => ?_)
    · have hw := hw.1 c2
      refine mx_aload_n (r := some v0) hx hb d_Mod_port_162 rfl (lv_at hl 0 rfl) ?_
      obtain ⟨t3, hw⟩ := hw
      refine mx_get (ci := 8) (C := "NetJoinsModel") (T := F_Mod) (N := 33) hx hb hW hown hK.1 hR (a := v0) rfl t3 rfl i_Mod 21 2 (by decide) rfl kw_1156 (fun _ h9 => h9) d_Mod_port_163 ?_
      refine lv_iconst (v := 3) hx hb d_Mod_port_166 (by decide) ?_
      refine mx_aload_n (r := some v0) hx hb d_Mod_port_167 rfl (lv_at hl 0 rfl) ?_
      obtain ⟨t4, hw⟩ := hw
      refine mx_get (ci := 8) (C := "NetJoinsModel") (T := F_Mod) (N := 33) hx hb hW hown hK.1 hR (a := v0) rfl t4 rfl i_Mod 20 0 (by decide) rfl kw_1155 (fun _ h9 => h9) d_Mod_port_168 ?_
      refine lv_imul hx hb d_Mod_port_171 ?_
      refine lv_iload_n hx hb d_Mod_port_172 rfl (lv_at hl 1 rfl) ?_
      obtain ⟨a5, ea5, t6, t6i, hw⟩ := hw
      refine mx_iast hx hb hK.1 hR (a := a5) ea5 t6 t6i d_Mod_port_173 (fun H locs hR => ?_)
      obtain ⟨h7, eh7⟩ : ∃ z, z = sA h a5 ((3 : Int32) * (gI h 820 v0)).toNatClampNeg x1 := ⟨_, rfl⟩
      rw [← eh7] at hR
      have hw := hw h7 eh7
      refine mx_aload_n (r := some v0) hx hb d_Mod_port_174 rfl (lv_at hl 0 rfl) ?_
      obtain ⟨t8, hw⟩ := hw
      refine mx_get (ci := 8) (C := "NetJoinsModel") (T := F_Mod) (N := 33) hx hb hW hown hK.1 hR (a := v0) rfl t8 rfl i_Mod 21 2 (by decide) rfl kw_1156 (fun _ h9 => h9) d_Mod_port_175 ?_
      refine lv_iconst (v := 3) hx hb d_Mod_port_178 (by decide) ?_
      refine mx_aload_n (r := some v0) hx hb d_Mod_port_179 rfl (lv_at hl 0 rfl) ?_
      obtain ⟨t9, hw⟩ := hw
      refine mx_get (ci := 8) (C := "NetJoinsModel") (T := F_Mod) (N := 33) hx hb hW hown hK.1 hR (a := v0) rfl t9 rfl i_Mod 20 0 (by decide) rfl kw_1155 (fun _ h9 => h9) d_Mod_port_180 ?_
      refine lv_imul hx hb d_Mod_port_183 ?_
      refine lv_iconst (v := 1) hx hb d_Mod_port_184 (by decide) ?_
      refine lv_iadd hx hb d_Mod_port_185 ?_
      refine lv_iload_n hx hb d_Mod_port_186 rfl (lv_at hl 2 rfl) ?_
      obtain ⟨a10, ea10, t11, t11i, hw⟩ := hw
      refine mx_iast hx hb hK.1 hR (a := a10) ea10 t11 t11i d_Mod_port_187 (fun H locs hR => ?_)
      obtain ⟨h12, eh12⟩ : ∃ z, z = sA h7 a10 (((3 : Int32) * (gI h7 820 v0)) + (1 : Int32)).toNatClampNeg x2 := ⟨_, rfl⟩
      rw [← eh12] at hR
      have hw := hw h12 eh12
      refine mx_aload_n (r := some v0) hx hb d_Mod_port_188 rfl (lv_at hl 0 rfl) ?_
      obtain ⟨t13, hw⟩ := hw
      refine mx_get (ci := 8) (C := "NetJoinsModel") (T := F_Mod) (N := 33) hx hb hW hown hK.1 hR (a := v0) rfl t13 rfl i_Mod 21 2 (by decide) rfl kw_1156 (fun _ h9 => h9) d_Mod_port_189 ?_
      refine lv_iconst (v := 3) hx hb d_Mod_port_192 (by decide) ?_
      refine mx_aload_n (r := some v0) hx hb d_Mod_port_193 rfl (lv_at hl 0 rfl) ?_
      obtain ⟨t14, hw⟩ := hw
      refine mx_get (ci := 8) (C := "NetJoinsModel") (T := F_Mod) (N := 33) hx hb hW hown hK.1 hR (a := v0) rfl t14 rfl i_Mod 20 0 (by decide) rfl kw_1155 (fun _ h9 => h9) d_Mod_port_194 ?_
      refine lv_imul hx hb d_Mod_port_197 ?_
      refine lv_iconst (v := 2) hx hb d_Mod_port_198 (by decide) ?_
      refine lv_iadd hx hb d_Mod_port_199 ?_
      refine lv_iload_n hx hb d_Mod_port_200 rfl (lv_at hl 3 rfl) ?_
      obtain ⟨a15, ea15, t16, t16i, hw⟩ := hw
      refine mx_iast hx hb hK.1 hR (a := a15) ea15 t16 t16i d_Mod_port_201 (fun H locs hR => ?_)
      obtain ⟨h17, eh17⟩ : ∃ z, z = sA h12 a15 (((3 : Int32) * (gI h12 820 v0)) + (2 : Int32)).toNatClampNeg x3 := ⟨_, rfl⟩
      rw [← eh17] at hR
      have hw := hw h17 eh17
      refine mx_aload_n (r := some v0) hx hb d_Mod_port_202 rfl (lv_at hl 0 rfl) ?_
      refine lv_dup hx hb d_Mod_port_203 (mx_rf_cat _) ?_
      obtain ⟨t18, hw⟩ := hw
      refine mx_get (ci := 8) (C := "NetJoinsModel") (T := F_Mod) (N := 33) hx hb hW hown hK.1 hR (a := v0) rfl t18 rfl i_Mod 20 0 (by decide) rfl kw_1155 (fun _ h9 => h9) d_Mod_port_204 ?_
      refine lv_iconst (v := 1) hx hb d_Mod_port_207 (by decide) ?_
      refine lv_iadd hx hb d_Mod_port_208 ?_
      obtain ⟨t19, hw⟩ := hw
      refine mx_put (ci := 8) (C := "NetJoinsModel") (T := F_Mod) (N := 33) (v := .int ((gI h17 820 v0) + (1 : Int32))) (h' := sI h17 820 v0 ((gI h17 820 v0) + (1 : Int32))) hx hb hW hown hK.1 hR (a := v0) rfl t19 rfl i_Mod t_Mod t_Mod_ok n_Mod 20 0 (by decide) rfl kw_1155 (fun _ h9 => h9) rfl rfl rfl d_Mod_port_209 rfl (toE_sI (ci := 8) (k := 20) t19 rfl) (fun H locs hR => ?_)
      obtain ⟨h20, eh20⟩ : ∃ z, z = sI h17 820 v0 ((gI h17 820 v0) + (1 : Int32)) := ⟨_, rfl⟩
      rw [← eh20] at hR
      have hw := hw h20 eh20
      refine mx_aload_n (r := some v0) hx hb d_Mod_port_212 rfl (lv_at hl 0 rfl) ?_
      obtain ⟨t23, hw⟩ := hw
      refine mx_callv (va_runV (b := v0) (As := []) (rest := []) ⟨hx, hb, hml, hown, hW⟩ (mt_Mod_anew l D cs Z _ hw) (mx_cwV hW ok_Mod_anew kw_1248 rfl rfl ⟨Nat.le_of_ble_eq_true rfl, Nat.le_of_ble_eq_true rfl⟩) (mx_preV hK hZ hA hR (ci := 8) rfl t23) rfl rfl hl.1 rfl (lv_room (Nat.le_of_ble_eq_true rfl)) d_Mod_port_213 ⟨Nat.le_of_ble_eq_true rfl, Nat.le_of_ble_eq_true rfl⟩) hR hA (fun h22 H locs hw hR => ?_)
      try dsimp only at hw
      refine lv_iconst (v := 1) hx hb d_Mod_port_216 (by decide) ?_
      exact mx_zret hx hb hr hlocks hR (Or.inr rfl) hw d_Mod_port_217
    · have hw := hw.2 c2
      refine mx_aload_n (r := some v0) hx hb d_Mod_port_111 rfl (lv_at hl 0 rfl) ?_
      obtain ⟨t24, hw⟩ := hw
      refine mx_get (ci := 8) (C := "NetJoinsModel") (T := F_Mod) (N := 33) hx hb hW hown hK.1 hR (a := v0) rfl t24 rfl i_Mod 21 2 (by decide) rfl kw_1156 (fun _ h9 => h9) d_Mod_port_112 ?_
      refine lv_iconst (v := 3) hx hb d_Mod_port_115 (by decide) ?_
      refine lv_iload hx hb d_Mod_port_116 (lv_at hl 4 rfl) ?_
      refine lv_imul hx hb d_Mod_port_118 ?_
      obtain ⟨a25, ea25, t26, t26i, hw⟩ := hw
      refine mx_iald hx hb hK.1 hR (a := a25) ea25 t26 t26i d_Mod_port_119 ?_
      refine lv_iload_n hx hb d_Mod_port_120 rfl (lv_at hl 1 rfl) ?_
      refine lv_icmp_ne (tgt := 156) hx hb d_Mod_port_121 (by decide) (fun c27 => ?_) (fun c27 => ?_)
      · have hw := hw.1 c27
        exact mn_Mod_port_156 C post (lpF (wb_Mod_port_102 Z post v0) n) ih x1 x2 x3 x5 _ _ _ _ hw (lv_sub hl [0, 1, 2, 3, 4] rfl) hR
      · have hw := hw.2 c27
        refine mx_aload_n (r := some v0) hx hb d_Mod_port_124 rfl (lv_at hl 0 rfl) ?_
        obtain ⟨t28, hw⟩ := hw
        refine mx_get (ci := 8) (C := "NetJoinsModel") (T := F_Mod) (N := 33) hx hb hW hown hK.1 hR (a := v0) rfl t28 rfl i_Mod 21 2 (by decide) rfl kw_1156 (fun _ h9 => h9) d_Mod_port_125 ?_
        refine lv_iconst (v := 3) hx hb d_Mod_port_128 (by decide) ?_
        refine lv_iload hx hb d_Mod_port_129 (lv_at hl 4 rfl) ?_
        refine lv_imul hx hb d_Mod_port_131 ?_
        refine lv_iconst (v := 1) hx hb d_Mod_port_132 (by decide) ?_
        refine lv_iadd hx hb d_Mod_port_133 ?_
        obtain ⟨a29, ea29, t30, t30i, hw⟩ := hw
        refine mx_iald hx hb hK.1 hR (a := a29) ea29 t30 t30i d_Mod_port_134 ?_
        refine lv_iload_n hx hb d_Mod_port_135 rfl (lv_at hl 2 rfl) ?_
        refine lv_icmp_ne (tgt := 156) hx hb d_Mod_port_136 (by decide) (fun c31 => ?_) (fun c31 => ?_)
        · have hw := hw.1 c31
          exact mn_Mod_port_156 C post (lpF (wb_Mod_port_102 Z post v0) n) ih x1 x2 x3 x5 _ _ _ _ hw (lv_sub hl [0, 1, 2, 3, 4] rfl) hR
        · have hw := hw.2 c31
          refine mx_aload_n (r := some v0) hx hb d_Mod_port_139 rfl (lv_at hl 0 rfl) ?_
          obtain ⟨t32, hw⟩ := hw
          refine mx_get (ci := 8) (C := "NetJoinsModel") (T := F_Mod) (N := 33) hx hb hW hown hK.1 hR (a := v0) rfl t32 rfl i_Mod 21 2 (by decide) rfl kw_1156 (fun _ h9 => h9) d_Mod_port_140 ?_
          refine lv_iconst (v := 3) hx hb d_Mod_port_143 (by decide) ?_
          refine lv_iload hx hb d_Mod_port_144 (lv_at hl 4 rfl) ?_
          refine lv_imul hx hb d_Mod_port_146 ?_
          refine lv_iconst (v := 2) hx hb d_Mod_port_147 (by decide) ?_
          refine lv_iadd hx hb d_Mod_port_148 ?_
          obtain ⟨a33, ea33, t34, t34i, hw⟩ := hw
          refine mx_iald hx hb hK.1 hR (a := a33) ea33 t34 t34i d_Mod_port_149 ?_
          refine lv_iload_n hx hb d_Mod_port_150 rfl (lv_at hl 3 rfl) ?_
          refine lv_icmp_ne (tgt := 156) hx hb d_Mod_port_151 (by decide) (fun c35 => ?_) (fun c35 => ?_)
          · have hw := hw.1 c35
            exact mn_Mod_port_156 C post (lpF (wb_Mod_port_102 Z post v0) n) ih x1 x2 x3 x5 _ _ _ _ hw (lv_sub hl [0, 1, 2, 3, 4] rfl) hR
          · have hw := hw.2 c35
            refine lv_iconst (v := 0) hx hb d_Mod_port_154 (by decide) ?_
            exact mx_zret hx hb hr hlocks hR (Or.inl rfl) hw d_Mod_port_155
set_option maxHeartbeats 4000000 in
set_option maxRecDepth 100000 in
theorem mn_Mod_port_78 {D : va_G} {cs : CS} {Z : Nat → Nat} {h0 : HS} {p : Program} {l : Launch} {e : Env} {s : State} {m : MethodId} {args : Array Value} {below : List Frame} {meth : Method} {c : Code} {v0 : Nat} (C : mC D cs Z h0 y_Mod_port c_Mod_port 6 (some .boolean) p s m args meth c) (post : Int32 → HS → Prop) : ∀ (x1 : Int32) (x2 : Int32) (x3 : Int32) (s0 : Int32) (s1 : Option Nat) (h : HS) (H : Heap) (locs : List Loc) (ls : Array Slot), wj_Mod_port_78 Z post v0 x1 x2 x3 s0 s1 h → lv_has ls 6 [(0, va_rf (some v0)), (1, .int x1), (2, .int x2), (3, .int x3)] → mR D cs (fA h0 s.heap.size) h s.heap H locs → W p l e ({ frames := 8, cells := 0, slots := 0, locals := 243 } : Room) s m args below meth c H locs 0 0 (MQ below (va_Qi post (mB D cs h0 s.heap.size) (fA h0 s.heap.size)) args s 0 0 (fA h0 s.heap.size)) (F0 m 78 ls [.int s0, va_rf s1]) := by
  obtain ⟨hx, hb, hr, hml, hown, hW, hlocks, hnm, hK, hZ⟩ := id C
  have hown : s.vm.findClass "NetJoinsModel" = some m.cls := hown
  have hA : ∀ q, s.heap.size ≤ q → fA h0 s.heap.size q := fun _ h => Or.inr h
  intro x1 x2 x3 s0 s1 h H locs ls hw hl hR
  unfold wj_Mod_port_78 at hw
  obtain ⟨a1, ea1, t2, hw⟩ := hw
  refine mx_put (ci := 8) (C := "NetJoinsModel") (T := F_Mod) (N := 33) (v := .int s0) (h' := sI h 800 a1 s0) hx hb hW hown hK.1 hR (a := a1) ea1 t2 rfl i_Mod t_Mod t_Mod_ok n_Mod 0 0 (by decide) rfl kw_1135 (fun _ h9 => h9) rfl rfl rfl d_Mod_port_78 rfl (toE_sI (ci := 8) (k := 0) t2 rfl) (fun H locs hR => ?_)
  obtain ⟨h3, eh3⟩ : ∃ z, z = sI h 800 a1 s0 := ⟨_, rfl⟩
  rw [← eh3] at hR
  have hw := hw h3 eh3
  refine mx_aload_n (r := some v0) hx hb d_Mod_port_81 rfl (lv_at hl 0 rfl) ?_
  obtain ⟨t4, hw⟩ := hw
  refine mx_get (ci := 8) (C := "NetJoinsModel") (T := F_Mod) (N := 33) hx hb hW hown hK.1 hR (a := v0) rfl t4 rfl i_Mod 0 0 (by decide) rfl kw_1135 (fun _ h9 => h9) d_Mod_port_82 ?_
  refine lv_if_ne (tgt := 97) hx hb d_Mod_port_85 (by decide) (fun c5 => ?_) (fun c5 => ?_)
  · have hw := hw.1 c5
    refine lv_iconst (v := 0) hx hb d_Mod_port_97 (by decide) ?_
    exact mx_zret hx hb hr hlocks hR (Or.inl rfl) hw d_Mod_port_98
  · have hw := hw.2 c5
    refine mx_aload_n (r := some v0) hx hb d_Mod_port_88 rfl (lv_at hl 0 rfl) ?_
    obtain ⟨t6, hw⟩ := hw
    refine mx_get (ci := 8) (C := "NetJoinsModel") (T := F_Mod) (N := 33) hx hb hW hown hK.1 hR (a := v0) rfl t6 rfl i_Mod 20 0 (by decide) rfl kw_1155 (fun _ h9 => h9) d_Mod_port_89 ?_
    refine lv_bipush (v := 30) hx hb d_Mod_port_92 (by decide) ?_
    refine lv_icmp_ne (tgt := 99) hx hb d_Mod_port_94 (by decide) (fun c7 => ?_) (fun c7 => ?_)
    · have hw := hw.1 c7
      refine lv_iconst (v := 0) hx hb d_Mod_port_99 (by decide) ?_
      refine lv_istore (i := 5) (lv' := [(5, .int (0 : Int32)), (0, va_rf (some v0)), (1, .int x1), (2, .int x2), (3, .int x3)]) hx hb d_Mod_port_100 hl (by decide) rfl (fun ls hl => ?_)
      obtain ⟨n9, hw⟩ := hw
      exact mn_Mod_port_102 C post n9 x1 x2 x3 (0 : Int32) _ _ _ _ hw (lv_sub hl [1, 2, 3, 4, 0] rfl) hR
    · have hw := hw.2 c7
      refine lv_iconst (v := 0) hx hb d_Mod_port_97 (by decide) ?_
      exact mx_zret hx hb hr hlocks hR (Or.inl rfl) hw d_Mod_port_98
set_option maxHeartbeats 4000000 in
set_option maxRecDepth 100000 in
theorem mn_Mod_port_40 {D : va_G} {cs : CS} {Z : Nat → Nat} {h0 : HS} {p : Program} {l : Launch} {e : Env} {s : State} {m : MethodId} {args : Array Value} {below : List Frame} {meth : Method} {c : Code} {v0 : Nat} (C : mC D cs Z h0 y_Mod_port c_Mod_port 6 (some .boolean) p s m args meth c) (post : Int32 → HS → Prop) : ∀ (x1 : Int32) (x2 : Int32) (x3 : Int32) (s0 : Int32) (h : HS) (H : Heap) (locs : List Loc) (ls : Array Slot), wj_Mod_port_40 Z post v0 x1 x2 x3 s0 h → lv_has ls 6 [(0, va_rf (some v0)), (1, .int x1), (2, .int x2), (3, .int x3)] → mR D cs (fA h0 s.heap.size) h s.heap H locs → W p l e ({ frames := 8, cells := 0, slots := 0, locals := 243 } : Room) s m args below meth c H locs 0 0 (MQ below (va_Qi post (mB D cs h0 s.heap.size) (fA h0 s.heap.size)) args s 0 0 (fA h0 s.heap.size)) (F0 m 40 ls [.int s0]) := by
  obtain ⟨hx, hb, hr, hml, hown, hW, hlocks, hnm, hK, hZ⟩ := id C
  have hown : s.vm.findClass "NetJoinsModel" = some m.cls := hown
  have hA : ∀ q, s.heap.size ≤ q → fA h0 s.heap.size q := fun _ h => Or.inr h
  intro x1 x2 x3 s0 h H locs ls hw hl hR
  unfold wj_Mod_port_40 at hw
  refine lv_istore (i := 4) (lv' := [(4, .int s0), (0, va_rf (some v0)), (1, .int x1), (2, .int x2), (3, .int x3)]) hx hb d_Mod_port_40 hl (by decide) rfl (fun ls hl => ?_)
  refine mx_aload_n (r := some v0) hx hb d_Mod_port_42 rfl (lv_at hl 1 rfl) ?_
  refine lv_iload hx hb d_Mod_port_43 (lv_at hl 0 rfl) ?_
  refine lv_if_ne (tgt := 52) hx hb d_Mod_port_45 (by decide) (fun c1 => ?_) (fun c1 => ?_)
  · have hw := hw.1 c1
    refine mx_aload_n (r := some v0) hx hb d_Mod_port_52 rfl (lv_at hl 1 rfl) ?_
    obtain ⟨t2, hw⟩ := hw
    refine mx_get (ci := 8) (C := "NetJoinsModel") (T := F_Mod) (N := 33) hx hb hW hown hK.1 hR (a := v0) rfl t2 rfl i_Mod 2 2 (by decide) rfl kw_1137 (fun _ h9 => h9) d_Mod_port_53 ?_
    refine lv_iload_n hx hb d_Mod_port_56 rfl (lv_at hl 2 rfl) ?_
    obtain ⟨a3, ea3, t4, t4i, hw⟩ := hw
    refine mx_iald hx hb hK.1 hR (a := a3) ea3 t4 t4i d_Mod_port_57 ?_
    refine lv_iconst (v := (-1)) hx hb d_Mod_port_58 (by decide) ?_
    refine lv_icmp_ne (tgt := 66) hx hb d_Mod_port_59 (by decide) (fun c5 => ?_) (fun c5 => ?_)
    · have hw := hw.1 c5
      refine lv_iload_n hx hb d_Mod_port_66 rfl (lv_at hl 4 rfl) ?_
      refine mx_calli (va_runS (As := [.int x3]) (rest := [va_rf (some v0)]) ⟨hx, hb, hml, hown, hW⟩ (mt_Mod_isName l D cs Z _ hw) (mx_cwS hW ok_Mod_isName kw_1333 rfl rfl ⟨Nat.le_of_ble_eq_true rfl, Nat.le_of_ble_eq_true rfl⟩) (mx_preS hK hZ hA hR) rfl rfl hl.1 rfl (lv_room (Nat.le_of_ble_eq_true rfl)) d_Mod_port_67 ⟨Nat.le_of_ble_eq_true rfl, Nat.le_of_ble_eq_true rfl⟩) hR hA (fun r6 h7 H locs hw hR => ?_)
      try dsimp only at hw
      refine lv_if_eq (tgt := 77) hx hb d_Mod_port_70 (by decide) (fun c8 => ?_) (fun c8 => ?_)
      · have hw := hw.1 c8
        refine lv_iconst (v := 3) hx hb d_Mod_port_77 (by decide) ?_
        exact mn_Mod_port_78 C post x1 x2 x3 (3 : Int32) (some v0) _ _ _ _ hw (lv_sub hl [1, 2, 3, 4] rfl) hR
      · have hw := hw.2 c8
        refine lv_iconst (v := 0) hx hb d_Mod_port_73 (by decide) ?_
        refine lv_goto (tgt := 78) hx hb d_Mod_port_74 (by decide) ?_
        exact mn_Mod_port_78 C post x1 x2 x3 (0 : Int32) (some v0) _ _ _ _ hw (lv_sub hl [1, 2, 3, 4] rfl) hR
    · have hw := hw.2 c5
      refine lv_iconst (v := 2) hx hb d_Mod_port_62 (by decide) ?_
      refine lv_goto (tgt := 78) hx hb d_Mod_port_63 (by decide) ?_
      exact mn_Mod_port_78 C post x1 x2 x3 (2 : Int32) (some v0) _ _ _ _ hw (lv_sub hl [1, 2, 3, 4] rfl) hR
  · have hw := hw.2 c1
    refine lv_iconst (v := 1) hx hb d_Mod_port_48 (by decide) ?_
    refine lv_goto (tgt := 78) hx hb d_Mod_port_49 (by decide) ?_
    exact mn_Mod_port_78 C post x1 x2 x3 (1 : Int32) (some v0) _ _ _ _ hw (lv_sub hl [1, 2, 3, 4] rfl) hR
set_option maxHeartbeats 4000000 in
set_option maxRecDepth 100000 in
theorem mn_Mod_port_39 {D : va_G} {cs : CS} {Z : Nat → Nat} {h0 : HS} {p : Program} {l : Launch} {e : Env} {s : State} {m : MethodId} {args : Array Value} {below : List Frame} {meth : Method} {c : Code} {v0 : Nat} (C : mC D cs Z h0 y_Mod_port c_Mod_port 6 (some .boolean) p s m args meth c) (post : Int32 → HS → Prop) : ∀ (x1 : Int32) (x2 : Int32) (x3 : Int32) (h : HS) (H : Heap) (locs : List Loc) (ls : Array Slot), wj_Mod_port_39 Z post v0 x1 x2 x3 h → lv_has ls 6 [(0, va_rf (some v0)), (1, .int x1), (2, .int x2), (3, .int x3)] → mR D cs (fA h0 s.heap.size) h s.heap H locs → W p l e ({ frames := 8, cells := 0, slots := 0, locals := 243 } : Room) s m args below meth c H locs 0 0 (MQ below (va_Qi post (mB D cs h0 s.heap.size) (fA h0 s.heap.size)) args s 0 0 (fA h0 s.heap.size)) (F0 m 39 ls []) := by
  obtain ⟨hx, hb, hr, hml, hown, hW, hlocks, hnm, hK, hZ⟩ := id C
  have hown : s.vm.findClass "NetJoinsModel" = some m.cls := hown
  have hA : ∀ q, s.heap.size ≤ q → fA h0 s.heap.size q := fun _ h => Or.inr h
  intro x1 x2 x3 h H locs ls hw hl hR
  unfold wj_Mod_port_39 at hw
  refine lv_iconst (v := 0) hx hb d_Mod_port_39 (by decide) ?_
  exact mn_Mod_port_40 C post x1 x2 x3 (0 : Int32) _ _ _ _ hw (lv_sub hl [0, 1, 2, 3] rfl) hR
set_option maxHeartbeats 4000000 in
set_option maxRecDepth 100000 in
theorem mt_Mod_port (l : Launch) (D : va_G) (cs : CS) (Z : Nat → Nat) (sz : Nat) {post : Int32 → HS → Prop} {h : HS} {v0 : Nat} {x1 : Int32} {x2 : Int32} {x3 : Int32} (hw : wp_Mod_port Z post h v0 x1 x2 x3) : Met l y_Mod_port (Cond.code y_Mod_port c_Mod_port 6 (some .boolean) :: WA) ({ frames := 8, cells := 0, slots := 0, locals := 243 } : Room) (mPc D cs Z h sz [va_rf (some v0), .int x1, .int x2, .int x3]) (va_Qi post (mB D cs h sz) (fA h sz)) 0 0 (fA h sz) := by
  refine mx_met (fun sz => va_Qi post (mB D cs h sz) (fA h sz)) (by decide) (by simp [lg_sl, mx_rf_cat, cat_i, cat_l]) ?_
  intro p e s m args below meth c C hR ls hl
  have hl : lv_has ls 6 [(0, va_rf (some v0)), (1, .int x1), (2, .int x2), (3, .int x3)] := hl
  obtain ⟨hx, hb, hr, hml, hown, hW, hlocks, hnm, hK, hZ⟩ := id C
  have hown : s.vm.findClass "NetJoinsModel" = some m.cls := hown
  have hA : ∀ q, s.heap.size ≤ q → fA h s.heap.size q := fun _ h => Or.inr h
  unfold wp_Mod_port at hw
  refine mx_aload_n (r := some v0) hx hb d_Mod_port_0 rfl (lv_at hl 0 rfl) ?_
  refine lv_iload_n hx hb d_Mod_port_1 rfl (lv_at hl 1 rfl) ?_
  obtain ⟨t3, hw⟩ := hw
  refine mx_calli (va_runV (b := v0) (As := [.int x1]) (rest := []) ⟨hx, hb, hml, hown, hW⟩ (mt_Mod_isSheet l D cs Z _ hw) (mx_cwV hW ok_Mod_isSheet kw_1244 rfl rfl ⟨Nat.le_of_ble_eq_true rfl, Nat.le_of_ble_eq_true rfl⟩) (mx_preV hK hZ hA hR (ci := 8) rfl t3) rfl rfl hl.1 rfl (lv_room (Nat.le_of_ble_eq_true rfl)) d_Mod_port_2 ⟨Nat.le_of_ble_eq_true rfl, Nat.le_of_ble_eq_true rfl⟩) hR hA (fun r1 h2 H locs hw hR => ?_)
  try dsimp only at hw
  refine lv_if_eq (tgt := 39) hx hb d_Mod_port_5 (by decide) (fun c4 => ?_) (fun c4 => ?_)
  · have hw := hw.1 c4
    exact mn_Mod_port_39 C post x1 x2 x3 _ _ _ _ hw (lv_sub hl [0, 1, 2, 3] rfl) hR
  · have hw := hw.2 c4
    refine lv_iload_n hx hb d_Mod_port_8 rfl (lv_at hl 2 rfl) ?_
    refine lv_if_lt (tgt := 39) hx hb d_Mod_port_9 (by decide) (fun c5 => ?_) (fun c5 => ?_)
    · have hw := hw.1 c5
      exact mn_Mod_port_39 C post x1 x2 x3 _ _ _ _ hw (lv_sub hl [0, 1, 2, 3] rfl) hR
    · have hw := hw.2 c5
      refine lv_iload_n hx hb d_Mod_port_12 rfl (lv_at hl 2 rfl) ?_
      refine mx_aload_n (r := some v0) hx hb d_Mod_port_13 rfl (lv_at hl 0 rfl) ?_
      obtain ⟨t6, hw⟩ := hw
      refine mx_get (ci := 8) (C := "NetJoinsModel") (T := F_Mod) (N := 33) hx hb hW hown hK.1 hR (a := v0) rfl t6 rfl i_Mod 11 0 (by decide) rfl kw_1146 (fun _ h9 => h9) d_Mod_port_14 ?_
      refine lv_icmp_ge (tgt := 39) hx hb d_Mod_port_17 (by decide) (fun c7 => ?_) (fun c7 => ?_)
      · have hw := hw.1 c7
        exact mn_Mod_port_39 C post x1 x2 x3 _ _ _ _ hw (lv_sub hl [0, 1, 2, 3] rfl) hR
      · have hw := hw.2 c7
        refine mx_aload_n (r := some v0) hx hb d_Mod_port_20 rfl (lv_at hl 0 rfl) ?_
        obtain ⟨t8, hw⟩ := hw
        refine mx_get (ci := 8) (C := "NetJoinsModel") (T := F_Mod) (N := 33) hx hb hW hown hK.1 hR (a := v0) rfl t8 rfl i_Mod 12 2 (by decide) rfl kw_1147 (fun _ h9 => h9) d_Mod_port_21 ?_
        refine lv_iload_n hx hb d_Mod_port_24 rfl (lv_at hl 2 rfl) ?_
        obtain ⟨a9, ea9, t10, t10i, hw⟩ := hw
        refine mx_iald hx hb hK.1 hR (a := a9) ea9 t10 t10i d_Mod_port_25 ?_
        refine mx_aload_n (r := some v0) hx hb d_Mod_port_26 rfl (lv_at hl 0 rfl) ?_
        obtain ⟨t11, hw⟩ := hw
        refine mx_get (ci := 8) (C := "NetJoinsModel") (T := F_Mod) (N := 33) hx hb hW hown hK.1 hR (a := v0) rfl t11 rfl i_Mod 3 2 (by decide) rfl kw_1138 (fun _ h9 => h9) d_Mod_port_27 ?_
        refine lv_iload_n hx hb d_Mod_port_30 rfl (lv_at hl 1 rfl) ?_
        obtain ⟨a12, ea12, t13, t13i, hw⟩ := hw
        refine mx_iald hx hb hK.1 hR (a := a12) ea12 t13 t13i d_Mod_port_31 ?_
        refine lv_icmp_ne (tgt := 39) hx hb d_Mod_port_32 (by decide) (fun c14 => ?_) (fun c14 => ?_)
        · have hw := hw.1 c14
          exact mn_Mod_port_39 C post x1 x2 x3 _ _ _ _ hw (lv_sub hl [0, 1, 2, 3] rfl) hR
        · have hw := hw.2 c14
          refine lv_iconst (v := 1) hx hb d_Mod_port_35 (by decide) ?_
          refine lv_goto (tgt := 40) hx hb d_Mod_port_36 (by decide) ?_
          exact mn_Mod_port_40 C post x1 x2 x3 (1 : Int32) _ _ _ _ hw (lv_sub hl [0, 1, 2, 3] rfl) hR
set_option maxHeartbeats 4000000 in
set_option maxRecDepth 100000 in
theorem mn_Mod_bus_127 {D : va_G} {cs : CS} {Z : Nat → Nat} {h0 : HS} {p : Program} {l : Launch} {e : Env} {s : State} {m : MethodId} {args : Array Value} {below : List Frame} {meth : Method} {c : Code} {v0 : Nat} (C : mC D cs Z h0 y_Mod_bus c_Mod_bus 6 (some .boolean) p s m args meth c) (post : Int32 → HS → Prop) (K57 : Int32 × Int32 × Int32 × Int32 × Int32 × HS → Prop) (hK57 : ∀ (x1 : Int32) (x2 : Int32) (x3 : Int32) (x4 : Int32) (x5 : Int32) (h : HS) (H : Heap) (locs : List Loc) (ls : Array Slot), K57 (x1, x2, x3, x4, x5, h) → lv_has ls 6 [(0, va_rf (some v0)), (1, .int x1), (2, .int x2), (3, .int x3), (4, .int x4), (5, .int x5)] → mR D cs (fA h0 s.heap.size) h s.heap H locs → W p l e ({ frames := 8, cells := 0, slots := 0, locals := 243 } : Room) s m args below meth c H locs 0 0 (MQ below (va_Qi post (mB D cs h0 s.heap.size) (fA h0 s.heap.size)) args s 0 0 (fA h0 s.heap.size)) (F0 m 57 ls [])) : ∀ (x1 : Int32) (x2 : Int32) (x3 : Int32) (x4 : Int32) (x5 : Int32) (h : HS) (H : Heap) (locs : List Loc) (ls : Array Slot), wj_Mod_bus_127 Z post K57 v0 x1 x2 x3 x4 x5 h → lv_has ls 6 [(0, va_rf (some v0)), (1, .int x1), (2, .int x2), (3, .int x3), (4, .int x4), (5, .int x5)] → mR D cs (fA h0 s.heap.size) h s.heap H locs → W p l e ({ frames := 8, cells := 0, slots := 0, locals := 243 } : Room) s m args below meth c H locs 0 0 (MQ below (va_Qi post (mB D cs h0 s.heap.size) (fA h0 s.heap.size)) args s 0 0 (fA h0 s.heap.size)) (F0 m 127 ls []) := by
  obtain ⟨hx, hb, hr, hml, hown, hW, hlocks, hnm, hK, hZ⟩ := id C
  have hown : s.vm.findClass "NetJoinsModel" = some m.cls := hown
  have hA : ∀ q, s.heap.size ≤ q → fA h0 s.heap.size q := fun _ h => Or.inr h
  intro x1 x2 x3 x4 x5 h H locs ls hw hl hR
  unfold wj_Mod_bus_127 at hw
  obtain ⟨y1, ey1⟩ : ∃ y : Int32, y = x5 + (1 : Int32) := ⟨_, rfl⟩
  have hw := hw y1 ey1
  refine lv_iinc (v := y1) (lv' := [(5, .int y1), (0, va_rf (some v0)), (1, .int x1), (2, .int x2), (3, .int x3), (4, .int x4)]) hx hb d_Mod_bus_127 hl (k := 5) rfl (by rw [ey1]; rfl) (by decide) rfl (fun ls hl => ?_)
  refine lv_goto (tgt := 57) hx hb d_Mod_bus_130 (by decide) ?_
  exact hK57 x1 x2 x3 x4 y1 _ _ _ _ hw (lv_sub hl [1, 2, 3, 4, 5, 0] rfl) hR
set_option maxHeartbeats 4000000 in
set_option maxRecDepth 100000 in
theorem mn_Mod_bus_57 {D : va_G} {cs : CS} {Z : Nat → Nat} {h0 : HS} {p : Program} {l : Launch} {e : Env} {s : State} {m : MethodId} {args : Array Value} {below : List Frame} {meth : Method} {c : Code} {v0 : Nat} (C : mC D cs Z h0 y_Mod_bus c_Mod_bus 6 (some .boolean) p s m args meth c) (post : Int32 → HS → Prop) : ∀ (n : Nat) (x1 : Int32) (x2 : Int32) (x3 : Int32) (x4 : Int32) (x5 : Int32) (h : HS) (H : Heap) (locs : List Loc) (ls : Array Slot), lpF (wb_Mod_bus_57 Z post v0) n (x1, x2, x3, x4, x5, h) → lv_has ls 6 [(0, va_rf (some v0)), (1, .int x1), (2, .int x2), (3, .int x3), (4, .int x4), (5, .int x5)] → mR D cs (fA h0 s.heap.size) h s.heap H locs → W p l e ({ frames := 8, cells := 0, slots := 0, locals := 243 } : Room) s m args below meth c H locs 0 0 (MQ below (va_Qi post (mB D cs h0 s.heap.size) (fA h0 s.heap.size)) args s 0 0 (fA h0 s.heap.size)) (F0 m 57 ls []) := by
  obtain ⟨hx, hb, hr, hml, hown, hW, hlocks, hnm, hK, hZ⟩ := id C
  have hown : s.vm.findClass "NetJoinsModel" = some m.cls := hown
  have hA : ∀ q, s.heap.size ≤ q → fA h0 s.heap.size q := fun _ h => Or.inr h
  intro n
  induction n with
  | zero => intro x1 x2 x3 x4 x5 h H locs ls hw; exact hw.elim
  | succ n ih =>
    intro x1 x2 x3 x4 x5 h H locs ls hw hl hR
    have hw : wb_Mod_bus_57 Z post v0 (lpF (wb_Mod_bus_57 Z post v0) n) (x1, x2, x3, x4, x5, h) := hw
    unfold wb_Mod_bus_57 at hw
    dsimp only at hw
    refine lv_iload hx hb d_Mod_bus_57 (lv_at hl 5 rfl) ?_
    refine mx_aload_n (r := some v0) hx hb d_Mod_bus_59 rfl (lv_at hl 0 rfl) ?_
    obtain ⟨t1, hw⟩ := hw
    refine mx_get (ci := 8) (C := "NetJoinsModel") (T := F_Mod) (N := 33) hx hb hW hown hK.1 hR (a := v0) rfl t1 rfl i_Mod 22 0 (by decide) rfl kw_1157 (fun _ h9 => h9) d_Mod_bus_60 ?_
    refine lv_icmp_ge (tgt := 133) hx hb d_Mod_bus_63 (by decide) (fun c2 => ?_) (fun c2 => ?_)
    · have hw := hw.1 c2
      refine mx_aload_n (r := some v0) hx hb d_Mod_bus_133 rfl (lv_at hl 0 rfl) ?_
      obtain ⟨t3, hw⟩ := hw
      refine mx_get (ci := 8) (C := "NetJoinsModel") (T := F_Mod) (N := 33) hx hb hW hown hK.1 hR (a := v0) rfl t3 rfl i_Mod 23 2 (by decide) rfl kw_1158 (fun _ h9 => h9) d_Mod_bus_134 ?_
      refine lv_iconst (v := 4) hx hb d_Mod_bus_137 (by decide) ?_
      refine mx_aload_n (r := some v0) hx hb d_Mod_bus_138 rfl (lv_at hl 0 rfl) ?_
      obtain ⟨t4, hw⟩ := hw
      refine mx_get (ci := 8) (C := "NetJoinsModel") (T := F_Mod) (N := 33) hx hb hW hown hK.1 hR (a := v0) rfl t4 rfl i_Mod 22 0 (by decide) rfl kw_1157 (fun _ h9 => h9) d_Mod_bus_139 ?_
      refine lv_imul hx hb d_Mod_bus_142 ?_
      refine lv_iload_n hx hb d_Mod_bus_143 rfl (lv_at hl 1 rfl) ?_
      obtain ⟨a5, ea5, t6, t6i, hw⟩ := hw
      refine mx_iast hx hb hK.1 hR (a := a5) ea5 t6 t6i d_Mod_bus_144 (fun H locs hR => ?_)
      obtain ⟨h7, eh7⟩ : ∃ z, z = sA h a5 ((4 : Int32) * (gI h 822 v0)).toNatClampNeg x1 := ⟨_, rfl⟩
      rw [← eh7] at hR
      have hw := hw h7 eh7
      refine mx_aload_n (r := some v0) hx hb d_Mod_bus_145 rfl (lv_at hl 0 rfl) ?_
      obtain ⟨t8, hw⟩ := hw
      refine mx_get (ci := 8) (C := "NetJoinsModel") (T := F_Mod) (N := 33) hx hb hW hown hK.1 hR (a := v0) rfl t8 rfl i_Mod 23 2 (by decide) rfl kw_1158 (fun _ h9 => h9) d_Mod_bus_146 ?_
      refine lv_iconst (v := 4) hx hb d_Mod_bus_149 (by decide) ?_
      refine mx_aload_n (r := some v0) hx hb d_Mod_bus_150 rfl (lv_at hl 0 rfl) ?_
      obtain ⟨t9, hw⟩ := hw
      refine mx_get (ci := 8) (C := "NetJoinsModel") (T := F_Mod) (N := 33) hx hb hW hown hK.1 hR (a := v0) rfl t9 rfl i_Mod 22 0 (by decide) rfl kw_1157 (fun _ h9 => h9) d_Mod_bus_151 ?_
      refine lv_imul hx hb d_Mod_bus_154 ?_
      refine lv_iconst (v := 1) hx hb d_Mod_bus_155 (by decide) ?_
      refine lv_iadd hx hb d_Mod_bus_156 ?_
      refine lv_iload_n hx hb d_Mod_bus_157 rfl (lv_at hl 2 rfl) ?_
      obtain ⟨a10, ea10, t11, t11i, hw⟩ := hw
      refine mx_iast hx hb hK.1 hR (a := a10) ea10 t11 t11i d_Mod_bus_158 (fun H locs hR => ?_)
      obtain ⟨h12, eh12⟩ : ∃ z, z = sA h7 a10 (((4 : Int32) * (gI h7 822 v0)) + (1 : Int32)).toNatClampNeg x2 := ⟨_, rfl⟩
      rw [← eh12] at hR
      have hw := hw h12 eh12
      refine mx_aload_n (r := some v0) hx hb d_Mod_bus_159 rfl (lv_at hl 0 rfl) ?_
      obtain ⟨t13, hw⟩ := hw
      refine mx_get (ci := 8) (C := "NetJoinsModel") (T := F_Mod) (N := 33) hx hb hW hown hK.1 hR (a := v0) rfl t13 rfl i_Mod 23 2 (by decide) rfl kw_1158 (fun _ h9 => h9) d_Mod_bus_160 ?_
      refine lv_iconst (v := 4) hx hb d_Mod_bus_163 (by decide) ?_
      refine mx_aload_n (r := some v0) hx hb d_Mod_bus_164 rfl (lv_at hl 0 rfl) ?_
      obtain ⟨t14, hw⟩ := hw
      refine mx_get (ci := 8) (C := "NetJoinsModel") (T := F_Mod) (N := 33) hx hb hW hown hK.1 hR (a := v0) rfl t14 rfl i_Mod 22 0 (by decide) rfl kw_1157 (fun _ h9 => h9) d_Mod_bus_165 ?_
      refine lv_imul hx hb d_Mod_bus_168 ?_
      refine lv_iconst (v := 2) hx hb d_Mod_bus_169 (by decide) ?_
      refine lv_iadd hx hb d_Mod_bus_170 ?_
      refine lv_iload_n hx hb d_Mod_bus_171 rfl (lv_at hl 3 rfl) ?_
      obtain ⟨a15, ea15, t16, t16i, hw⟩ := hw
      refine mx_iast hx hb hK.1 hR (a := a15) ea15 t16 t16i d_Mod_bus_172 (fun H locs hR => ?_)
      obtain ⟨h17, eh17⟩ : ∃ z, z = sA h12 a15 (((4 : Int32) * (gI h12 822 v0)) + (2 : Int32)).toNatClampNeg x3 := ⟨_, rfl⟩
      rw [← eh17] at hR
      have hw := hw h17 eh17
      refine mx_aload_n (r := some v0) hx hb d_Mod_bus_173 rfl (lv_at hl 0 rfl) ?_
      obtain ⟨t18, hw⟩ := hw
      refine mx_get (ci := 8) (C := "NetJoinsModel") (T := F_Mod) (N := 33) hx hb hW hown hK.1 hR (a := v0) rfl t18 rfl i_Mod 23 2 (by decide) rfl kw_1158 (fun _ h9 => h9) d_Mod_bus_174 ?_
      refine lv_iconst (v := 4) hx hb d_Mod_bus_177 (by decide) ?_
      refine mx_aload_n (r := some v0) hx hb d_Mod_bus_178 rfl (lv_at hl 0 rfl) ?_
      obtain ⟨t19, hw⟩ := hw
      refine mx_get (ci := 8) (C := "NetJoinsModel") (T := F_Mod) (N := 33) hx hb hW hown hK.1 hR (a := v0) rfl t19 rfl i_Mod 22 0 (by decide) rfl kw_1157 (fun _ h9 => h9) d_Mod_bus_179 ?_
      refine lv_imul hx hb d_Mod_bus_182 ?_
      refine lv_iconst (v := 3) hx hb d_Mod_bus_183 (by decide) ?_
      refine lv_iadd hx hb d_Mod_bus_184 ?_
      refine lv_iload hx hb d_Mod_bus_185 (lv_at hl 4 rfl) ?_
      obtain ⟨a20, ea20, t21, t21i, hw⟩ := hw
      refine mx_iast hx hb hK.1 hR (a := a20) ea20 t21 t21i d_Mod_bus_187 (fun H locs hR => ?_)
      obtain ⟨h22, eh22⟩ : ∃ z, z = sA h17 a20 (((4 : Int32) * (gI h17 822 v0)) + (3 : Int32)).toNatClampNeg x4 := ⟨_, rfl⟩
      rw [← eh22] at hR
      have hw := hw h22 eh22
      refine mx_aload_n (r := some v0) hx hb d_Mod_bus_188 rfl (lv_at hl 0 rfl) ?_
      refine lv_dup hx hb d_Mod_bus_189 (mx_rf_cat _) ?_
      obtain ⟨t23, hw⟩ := hw
      refine mx_get (ci := 8) (C := "NetJoinsModel") (T := F_Mod) (N := 33) hx hb hW hown hK.1 hR (a := v0) rfl t23 rfl i_Mod 22 0 (by decide) rfl kw_1157 (fun _ h9 => h9) d_Mod_bus_190 ?_
      refine lv_iconst (v := 1) hx hb d_Mod_bus_193 (by decide) ?_
      refine lv_iadd hx hb d_Mod_bus_194 ?_
      obtain ⟨t24, hw⟩ := hw
      refine mx_put (ci := 8) (C := "NetJoinsModel") (T := F_Mod) (N := 33) (v := .int ((gI h22 822 v0) + (1 : Int32))) (h' := sI h22 822 v0 ((gI h22 822 v0) + (1 : Int32))) hx hb hW hown hK.1 hR (a := v0) rfl t24 rfl i_Mod t_Mod t_Mod_ok n_Mod 22 0 (by decide) rfl kw_1157 (fun _ h9 => h9) rfl rfl rfl d_Mod_bus_195 rfl (toE_sI (ci := 8) (k := 22) t24 rfl) (fun H locs hR => ?_)
      obtain ⟨h25, eh25⟩ : ∃ z, z = sI h22 822 v0 ((gI h22 822 v0) + (1 : Int32)) := ⟨_, rfl⟩
      rw [← eh25] at hR
      have hw := hw h25 eh25
      refine mx_aload_n (r := some v0) hx hb d_Mod_bus_198 rfl (lv_at hl 0 rfl) ?_
      obtain ⟨t28, hw⟩ := hw
      refine mx_callv (va_runV (b := v0) (As := []) (rest := []) ⟨hx, hb, hml, hown, hW⟩ (mt_Mod_anew l D cs Z _ hw) (mx_cwV hW ok_Mod_anew kw_1248 rfl rfl ⟨Nat.le_of_ble_eq_true rfl, Nat.le_of_ble_eq_true rfl⟩) (mx_preV hK hZ hA hR (ci := 8) rfl t28) rfl rfl hl.1 rfl (lv_room (Nat.le_of_ble_eq_true rfl)) d_Mod_bus_199 ⟨Nat.le_of_ble_eq_true rfl, Nat.le_of_ble_eq_true rfl⟩) hR hA (fun h27 H locs hw hR => ?_)
      try dsimp only at hw
      refine lv_iconst (v := 1) hx hb d_Mod_bus_202 (by decide) ?_
      exact mx_zret hx hb hr hlocks hR (Or.inr rfl) hw d_Mod_bus_203
    · have hw := hw.2 c2
      refine mx_aload_n (r := some v0) hx hb d_Mod_bus_66 rfl (lv_at hl 0 rfl) ?_
      obtain ⟨t29, hw⟩ := hw
      refine mx_get (ci := 8) (C := "NetJoinsModel") (T := F_Mod) (N := 33) hx hb hW hown hK.1 hR (a := v0) rfl t29 rfl i_Mod 23 2 (by decide) rfl kw_1158 (fun _ h9 => h9) d_Mod_bus_67 ?_
      refine lv_iconst (v := 4) hx hb d_Mod_bus_70 (by decide) ?_
      refine lv_iload hx hb d_Mod_bus_71 (lv_at hl 5 rfl) ?_
      refine lv_imul hx hb d_Mod_bus_73 ?_
      obtain ⟨a30, ea30, t31, t31i, hw⟩ := hw
      refine mx_iald hx hb hK.1 hR (a := a30) ea30 t31 t31i d_Mod_bus_74 ?_
      refine lv_iload_n hx hb d_Mod_bus_75 rfl (lv_at hl 1 rfl) ?_
      refine lv_icmp_ne (tgt := 127) hx hb d_Mod_bus_76 (by decide) (fun c32 => ?_) (fun c32 => ?_)
      · have hw := hw.1 c32
        exact mn_Mod_bus_127 C post (lpF (wb_Mod_bus_57 Z post v0) n) ih x1 x2 x3 x4 x5 _ _ _ _ hw (lv_sub hl [0, 1, 2, 3, 4, 5] rfl) hR
      · have hw := hw.2 c32
        refine mx_aload_n (r := some v0) hx hb d_Mod_bus_79 rfl (lv_at hl 0 rfl) ?_
        obtain ⟨t33, hw⟩ := hw
        refine mx_get (ci := 8) (C := "NetJoinsModel") (T := F_Mod) (N := 33) hx hb hW hown hK.1 hR (a := v0) rfl t33 rfl i_Mod 23 2 (by decide) rfl kw_1158 (fun _ h9 => h9) d_Mod_bus_80 ?_
        refine lv_iconst (v := 4) hx hb d_Mod_bus_83 (by decide) ?_
        refine lv_iload hx hb d_Mod_bus_84 (lv_at hl 5 rfl) ?_
        refine lv_imul hx hb d_Mod_bus_86 ?_
        refine lv_iconst (v := 1) hx hb d_Mod_bus_87 (by decide) ?_
        refine lv_iadd hx hb d_Mod_bus_88 ?_
        obtain ⟨a34, ea34, t35, t35i, hw⟩ := hw
        refine mx_iald hx hb hK.1 hR (a := a34) ea34 t35 t35i d_Mod_bus_89 ?_
        refine lv_iload_n hx hb d_Mod_bus_90 rfl (lv_at hl 2 rfl) ?_
        refine lv_icmp_ne (tgt := 127) hx hb d_Mod_bus_91 (by decide) (fun c36 => ?_) (fun c36 => ?_)
        · have hw := hw.1 c36
          exact mn_Mod_bus_127 C post (lpF (wb_Mod_bus_57 Z post v0) n) ih x1 x2 x3 x4 x5 _ _ _ _ hw (lv_sub hl [0, 1, 2, 3, 4, 5] rfl) hR
        · have hw := hw.2 c36
          refine mx_aload_n (r := some v0) hx hb d_Mod_bus_94 rfl (lv_at hl 0 rfl) ?_
          obtain ⟨t37, hw⟩ := hw
          refine mx_get (ci := 8) (C := "NetJoinsModel") (T := F_Mod) (N := 33) hx hb hW hown hK.1 hR (a := v0) rfl t37 rfl i_Mod 23 2 (by decide) rfl kw_1158 (fun _ h9 => h9) d_Mod_bus_95 ?_
          refine lv_iconst (v := 4) hx hb d_Mod_bus_98 (by decide) ?_
          refine lv_iload hx hb d_Mod_bus_99 (lv_at hl 5 rfl) ?_
          refine lv_imul hx hb d_Mod_bus_101 ?_
          refine lv_iconst (v := 2) hx hb d_Mod_bus_102 (by decide) ?_
          refine lv_iadd hx hb d_Mod_bus_103 ?_
          obtain ⟨a38, ea38, t39, t39i, hw⟩ := hw
          refine mx_iald hx hb hK.1 hR (a := a38) ea38 t39 t39i d_Mod_bus_104 ?_
          refine lv_iload_n hx hb d_Mod_bus_105 rfl (lv_at hl 3 rfl) ?_
          refine lv_icmp_ne (tgt := 127) hx hb d_Mod_bus_106 (by decide) (fun c40 => ?_) (fun c40 => ?_)
          · have hw := hw.1 c40
            exact mn_Mod_bus_127 C post (lpF (wb_Mod_bus_57 Z post v0) n) ih x1 x2 x3 x4 x5 _ _ _ _ hw (lv_sub hl [0, 1, 2, 3, 4, 5] rfl) hR
          · have hw := hw.2 c40
            refine mx_aload_n (r := some v0) hx hb d_Mod_bus_109 rfl (lv_at hl 0 rfl) ?_
            obtain ⟨t41, hw⟩ := hw
            refine mx_get (ci := 8) (C := "NetJoinsModel") (T := F_Mod) (N := 33) hx hb hW hown hK.1 hR (a := v0) rfl t41 rfl i_Mod 23 2 (by decide) rfl kw_1158 (fun _ h9 => h9) d_Mod_bus_110 ?_
            refine lv_iconst (v := 4) hx hb d_Mod_bus_113 (by decide) ?_
            refine lv_iload hx hb d_Mod_bus_114 (lv_at hl 5 rfl) ?_
            refine lv_imul hx hb d_Mod_bus_116 ?_
            refine lv_iconst (v := 3) hx hb d_Mod_bus_117 (by decide) ?_
            refine lv_iadd hx hb d_Mod_bus_118 ?_
            obtain ⟨a42, ea42, t43, t43i, hw⟩ := hw
            refine mx_iald hx hb hK.1 hR (a := a42) ea42 t43 t43i d_Mod_bus_119 ?_
            refine lv_iload hx hb d_Mod_bus_120 (lv_at hl 4 rfl) ?_
            refine lv_icmp_ne (tgt := 127) hx hb d_Mod_bus_122 (by decide) (fun c44 => ?_) (fun c44 => ?_)
            · have hw := hw.1 c44
              exact mn_Mod_bus_127 C post (lpF (wb_Mod_bus_57 Z post v0) n) ih x1 x2 x3 x4 x5 _ _ _ _ hw (lv_sub hl [0, 1, 2, 3, 4, 5] rfl) hR
            · have hw := hw.2 c44
              refine lv_iconst (v := 0) hx hb d_Mod_bus_125 (by decide) ?_
              exact mx_zret hx hb hr hlocks hR (Or.inl rfl) hw d_Mod_bus_126
set_option maxHeartbeats 4000000 in
set_option maxRecDepth 100000 in
theorem mn_Mod_bus_30 {D : va_G} {cs : CS} {Z : Nat → Nat} {h0 : HS} {p : Program} {l : Launch} {e : Env} {s : State} {m : MethodId} {args : Array Value} {below : List Frame} {meth : Method} {c : Code} {v0 : Nat} (C : mC D cs Z h0 y_Mod_bus c_Mod_bus 6 (some .boolean) p s m args meth c) (post : Int32 → HS → Prop) : ∀ (x1 : Int32) (x2 : Int32) (x3 : Int32) (x4 : Int32) (s0 : Int32) (s1 : Int32) (s2 : Option Nat) (s3 : Option Nat) (h : HS) (H : Heap) (locs : List Loc) (ls : Array Slot), wj_Mod_bus_30 Z post v0 x1 x2 x3 x4 s0 s1 s2 s3 h → lv_has ls 6 [(0, va_rf (some v0)), (1, .int x1), (2, .int x2), (3, .int x3), (4, .int x4)] → mR D cs (fA h0 s.heap.size) h s.heap H locs → W p l e ({ frames := 8, cells := 0, slots := 0, locals := 243 } : Room) s m args below meth c H locs 0 0 (MQ below (va_Qi post (mB D cs h0 s.heap.size) (fA h0 s.heap.size)) args s 0 0 (fA h0 s.heap.size)) (F0 m 30 ls [.int s0, .int s1, va_rf s2, va_rf s3]) := by
  obtain ⟨hx, hb, hr, hml, hown, hW, hlocks, hnm, hK, hZ⟩ := id C
  have hown : s.vm.findClass "NetJoinsModel" = some m.cls := hown
  have hA : ∀ q, s.heap.size ≤ q → fA h0 s.heap.size q := fun _ h => Or.inr h
  intro x1 x2 x3 x4 s0 s1 s2 s3 h H locs ls hw hl hR
  unfold wj_Mod_bus_30 at hw
  obtain ⟨a3, ea3, t4, hw⟩ := hw
  refine W.eq (g2 := F0 m 30 ls [.int s0, .int s1, va_rf (some a3), va_rf s3]) (by rw [← ea3] <;> rfl) ?_
  refine mx_calli (va_runV (b := a3) (As := [.int s1, .int s0]) (rest := [va_rf s3]) ⟨hx, hb, hml, hown, hW⟩ (mt_Mod_refusal l D cs Z _ hw) (mx_cwV hW ok_Mod_refusal kw_1321 rfl rfl ⟨Nat.le_of_ble_eq_true rfl, Nat.le_of_ble_eq_true rfl⟩) (mx_preV hK hZ hA hR (ci := 8) rfl t4) rfl rfl hl.1 rfl (lv_room (by simp [mx_rf_cat, cat_i, cat_l])) d_Mod_bus_30 ⟨Nat.le_of_ble_eq_true rfl, Nat.le_of_ble_eq_true rfl⟩) hR hA (fun r1 h2 H locs hw hR => ?_)
  try dsimp only at hw
  obtain ⟨a5, ea5, t6, hw⟩ := hw
  refine mx_put (ci := 8) (C := "NetJoinsModel") (T := F_Mod) (N := 33) (v := .int r1) (h' := sI h2 800 a5 r1) hx hb hW hown hK.1 hR (a := a5) ea5 t6 rfl i_Mod t_Mod t_Mod_ok n_Mod 0 0 (by decide) rfl kw_1135 (fun _ h9 => h9) rfl rfl rfl d_Mod_bus_33 rfl (toE_sI (ci := 8) (k := 0) t6 rfl) (fun H locs hR => ?_)
  obtain ⟨h7, eh7⟩ : ∃ z, z = sI h2 800 a5 r1 := ⟨_, rfl⟩
  rw [← eh7] at hR
  have hw := hw h7 eh7
  refine mx_aload_n (r := some v0) hx hb d_Mod_bus_36 rfl (lv_at hl 0 rfl) ?_
  obtain ⟨t8, hw⟩ := hw
  refine mx_get (ci := 8) (C := "NetJoinsModel") (T := F_Mod) (N := 33) hx hb hW hown hK.1 hR (a := v0) rfl t8 rfl i_Mod 0 0 (by decide) rfl kw_1135 (fun _ h9 => h9) d_Mod_bus_37 ?_
  refine lv_if_ne (tgt := 52) hx hb d_Mod_bus_40 (by decide) (fun c9 => ?_) (fun c9 => ?_)
  · have hw := hw.1 c9
    refine lv_iconst (v := 0) hx hb d_Mod_bus_52 (by decide) ?_
    exact mx_zret hx hb hr hlocks hR (Or.inl rfl) hw d_Mod_bus_53
  · have hw := hw.2 c9
    refine mx_aload_n (r := some v0) hx hb d_Mod_bus_43 rfl (lv_at hl 0 rfl) ?_
    obtain ⟨t10, hw⟩ := hw
    refine mx_get (ci := 8) (C := "NetJoinsModel") (T := F_Mod) (N := 33) hx hb hW hown hK.1 hR (a := v0) rfl t10 rfl i_Mod 22 0 (by decide) rfl kw_1157 (fun _ h9 => h9) d_Mod_bus_44 ?_
    refine lv_bipush (v := 16) hx hb d_Mod_bus_47 (by decide) ?_
    refine lv_icmp_ne (tgt := 54) hx hb d_Mod_bus_49 (by decide) (fun c11 => ?_) (fun c11 => ?_)
    · have hw := hw.1 c11
      refine lv_iconst (v := 0) hx hb d_Mod_bus_54 (by decide) ?_
      refine lv_istore (i := 5) (lv' := [(5, .int (0 : Int32)), (0, va_rf (some v0)), (1, .int x1), (2, .int x2), (3, .int x3), (4, .int x4)]) hx hb d_Mod_bus_55 hl (by decide) rfl (fun ls hl => ?_)
      obtain ⟨n9, hw⟩ := hw
      exact mn_Mod_bus_57 C post n9 x1 x2 x3 x4 (0 : Int32) _ _ _ _ hw (lv_sub hl [1, 2, 3, 4, 5, 0] rfl) hR
    · have hw := hw.2 c11
      refine lv_iconst (v := 0) hx hb d_Mod_bus_52 (by decide) ?_
      exact mx_zret hx hb hr hlocks hR (Or.inl rfl) hw d_Mod_bus_53
set_option maxHeartbeats 4000000 in
set_option maxRecDepth 100000 in
theorem mn_Mod_bus_29 {D : va_G} {cs : CS} {Z : Nat → Nat} {h0 : HS} {p : Program} {l : Launch} {e : Env} {s : State} {m : MethodId} {args : Array Value} {below : List Frame} {meth : Method} {c : Code} {v0 : Nat} (C : mC D cs Z h0 y_Mod_bus c_Mod_bus 6 (some .boolean) p s m args meth c) (post : Int32 → HS → Prop) : ∀ (x1 : Int32) (x2 : Int32) (x3 : Int32) (x4 : Int32) (s0 : Int32) (s1 : Option Nat) (s2 : Option Nat) (h : HS) (H : Heap) (locs : List Loc) (ls : Array Slot), wj_Mod_bus_29 Z post v0 x1 x2 x3 x4 s0 s1 s2 h → lv_has ls 6 [(0, va_rf (some v0)), (1, .int x1), (2, .int x2), (3, .int x3), (4, .int x4)] → mR D cs (fA h0 s.heap.size) h s.heap H locs → W p l e ({ frames := 8, cells := 0, slots := 0, locals := 243 } : Room) s m args below meth c H locs 0 0 (MQ below (va_Qi post (mB D cs h0 s.heap.size) (fA h0 s.heap.size)) args s 0 0 (fA h0 s.heap.size)) (F0 m 29 ls [.int s0, va_rf s1, va_rf s2]) := by
  obtain ⟨hx, hb, hr, hml, hown, hW, hlocks, hnm, hK, hZ⟩ := id C
  have hown : s.vm.findClass "NetJoinsModel" = some m.cls := hown
  have hA : ∀ q, s.heap.size ≤ q → fA h0 s.heap.size q := fun _ h => Or.inr h
  intro x1 x2 x3 x4 s0 s1 s2 h H locs ls hw hl hR
  unfold wj_Mod_bus_29 at hw
  refine lv_iconst (v := 0) hx hb d_Mod_bus_29 (by decide) ?_
  exact mn_Mod_bus_30 C post x1 x2 x3 x4 (0 : Int32) s0 s1 s2 _ _ _ _ hw (lv_sub hl [0, 1, 2, 3, 4] rfl) hR
set_option maxHeartbeats 4000000 in
set_option maxRecDepth 100000 in
theorem mt_Mod_bus (l : Launch) (D : va_G) (cs : CS) (Z : Nat → Nat) (sz : Nat) {post : Int32 → HS → Prop} {h : HS} {v0 : Nat} {x1 : Int32} {x2 : Int32} {x3 : Int32} {x4 : Int32} (hw : wp_Mod_bus Z post h v0 x1 x2 x3 x4) : Met l y_Mod_bus (Cond.code y_Mod_bus c_Mod_bus 6 (some .boolean) :: WA) ({ frames := 8, cells := 0, slots := 0, locals := 243 } : Room) (mPc D cs Z h sz [va_rf (some v0), .int x1, .int x2, .int x3, .int x4]) (va_Qi post (mB D cs h sz) (fA h sz)) 0 0 (fA h sz) := by
  refine mx_met (fun sz => va_Qi post (mB D cs h sz) (fA h sz)) (by decide) (by simp [lg_sl, mx_rf_cat, cat_i, cat_l]) ?_
  intro p e s m args below meth c C hR ls hl
  have hl : lv_has ls 6 [(0, va_rf (some v0)), (1, .int x1), (2, .int x2), (3, .int x3), (4, .int x4)] := hl
  obtain ⟨hx, hb, hr, hml, hown, hW, hlocks, hnm, hK, hZ⟩ := id C
  have hown : s.vm.findClass "NetJoinsModel" = some m.cls := hown
  have hA : ∀ q, s.heap.size ≤ q → fA h s.heap.size q := fun _ h => Or.inr h
  unfold wp_Mod_bus at hw
  refine mx_aload_n (r := some v0) hx hb d_Mod_bus_0 rfl (lv_at hl 0 rfl) ?_
  refine mx_aload_n (r := some v0) hx hb d_Mod_bus_1 rfl (lv_at hl 0 rfl) ?_
  refine lv_iload_n hx hb d_Mod_bus_2 rfl (lv_at hl 1 rfl) ?_
  refine lv_iload_n hx hb d_Mod_bus_3 rfl (lv_at hl 2 rfl) ?_
  refine mx_calli (va_runS (As := [.int x2]) (rest := [.int x1, va_rf (some v0), va_rf (some v0)]) ⟨hx, hb, hml, hown, hW⟩ (mt_Mod_isName l D cs Z _ hw) (mx_cwS hW ok_Mod_isName kw_1333 rfl rfl ⟨Nat.le_of_ble_eq_true rfl, Nat.le_of_ble_eq_true rfl⟩) (mx_preS hK hZ hA hR) rfl rfl hl.1 rfl (lv_room (Nat.le_of_ble_eq_true rfl)) d_Mod_bus_4 ⟨Nat.le_of_ble_eq_true rfl, Nat.le_of_ble_eq_true rfl⟩) hR hA (fun r1 h2 H locs hw hR => ?_)
  try dsimp only at hw
  refine lv_if_eq (tgt := 29) hx hb d_Mod_bus_7 (by decide) (fun c3 => ?_) (fun c3 => ?_)
  · have hw := hw.1 c3
    exact mn_Mod_bus_29 C post x1 x2 x3 x4 x1 (some v0) (some v0) _ _ _ _ hw (lv_sub hl [0, 1, 2, 3, 4] rfl) hR
  · have hw := hw.2 c3
    refine lv_iload_n hx hb d_Mod_bus_10 rfl (lv_at hl 3 rfl) ?_
    refine mx_calli (va_runS (As := [.int x3]) (rest := [.int x1, va_rf (some v0), va_rf (some v0)]) ⟨hx, hb, hml, hown, hW⟩ (mt_Mod_isName l D cs Z _ hw) (mx_cwS hW ok_Mod_isName kw_1333 rfl rfl ⟨Nat.le_of_ble_eq_true rfl, Nat.le_of_ble_eq_true rfl⟩) (mx_preS hK hZ hA hR) rfl rfl hl.1 rfl (lv_room (Nat.le_of_ble_eq_true rfl)) d_Mod_bus_11 ⟨Nat.le_of_ble_eq_true rfl, Nat.le_of_ble_eq_true rfl⟩) hR hA (fun r4 h5 H locs hw hR => ?_)
    try dsimp only at hw
    refine lv_if_eq (tgt := 29) hx hb d_Mod_bus_14 (by decide) (fun c6 => ?_) (fun c6 => ?_)
    · have hw := hw.1 c6
      exact mn_Mod_bus_29 C post x1 x2 x3 x4 x1 (some v0) (some v0) _ _ _ _ hw (lv_sub hl [0, 1, 2, 3, 4] rfl) hR
    · have hw := hw.2 c6
      refine lv_iload hx hb d_Mod_bus_17 (lv_at hl 4 rfl) ?_
      refine mx_calli (va_runS (As := [.int x4]) (rest := [.int x1, va_rf (some v0), va_rf (some v0)]) ⟨hx, hb, hml, hown, hW⟩ (mt_Mod_isName l D cs Z _ hw) (mx_cwS hW ok_Mod_isName kw_1333 rfl rfl ⟨Nat.le_of_ble_eq_true rfl, Nat.le_of_ble_eq_true rfl⟩) (mx_preS hK hZ hA hR) rfl rfl hl.1 rfl (lv_room (Nat.le_of_ble_eq_true rfl)) d_Mod_bus_19 ⟨Nat.le_of_ble_eq_true rfl, Nat.le_of_ble_eq_true rfl⟩) hR hA (fun r7 h8 H locs hw hR => ?_)
      try dsimp only at hw
      refine lv_if_eq (tgt := 29) hx hb d_Mod_bus_22 (by decide) (fun c9 => ?_) (fun c9 => ?_)
      · have hw := hw.1 c9
        exact mn_Mod_bus_29 C post x1 x2 x3 x4 x1 (some v0) (some v0) _ _ _ _ hw (lv_sub hl [0, 1, 2, 3, 4] rfl) hR
      · have hw := hw.2 c9
        refine lv_iconst (v := 1) hx hb d_Mod_bus_25 (by decide) ?_
        refine lv_goto (tgt := 30) hx hb d_Mod_bus_26 (by decide) ?_
        exact mn_Mod_bus_30 C post x1 x2 x3 x4 (1 : Int32) x1 (some v0) (some v0) _ _ _ _ hw (lv_sub hl [0, 1, 2, 3, 4] rfl) hR
set_option maxHeartbeats 4000000 in
set_option maxRecDepth 100000 in
theorem mn_Mod_drop_27 {D : va_G} {cs : CS} {Z : Nat → Nat} {h0 : HS} {p : Program} {l : Launch} {e : Env} {s : State} {m : MethodId} {args : Array Value} {below : List Frame} {meth : Method} {c : Code} {v0 : Nat} (C : mC D cs Z h0 y_Mod_drop c_Mod_drop 2 (some .int) p s m args meth c) (post : Int32 → HS → Prop) : ∀ (x1 : Int32) (s0 : Int32) (s1 : Option Nat) (h : HS) (H : Heap) (locs : List Loc) (ls : Array Slot), wj_Mod_drop_27 Z post v0 x1 s0 s1 h → lv_has ls 2 [(0, va_rf (some v0)), (1, .int x1)] → mR D cs (fA h0 s.heap.size) h s.heap H locs → W p l e ({ frames := 8, cells := 0, slots := 0, locals := 243 } : Room) s m args below meth c H locs 0 0 (MQ below (va_Qi post (mB D cs h0 s.heap.size) (fA h0 s.heap.size)) args s 0 0 (fA h0 s.heap.size)) (F0 m 27 ls [.int s0, va_rf s1]) := by
  obtain ⟨hx, hb, hr, hml, hown, hW, hlocks, hnm, hK, hZ⟩ := id C
  have hown : s.vm.findClass "NetJoinsModel" = some m.cls := hown
  have hA : ∀ q, s.heap.size ≤ q → fA h0 s.heap.size q := fun _ h => Or.inr h
  intro x1 s0 s1 h H locs ls hw hl hR
  unfold wj_Mod_drop_27 at hw
  obtain ⟨a1, ea1, t2, hw⟩ := hw
  refine mx_put (ci := 8) (C := "NetJoinsModel") (T := F_Mod) (N := 33) (v := .int s0) (h' := sI h 800 a1 s0) hx hb hW hown hK.1 hR (a := a1) ea1 t2 rfl i_Mod t_Mod t_Mod_ok n_Mod 0 0 (by decide) rfl kw_1135 (fun _ h9 => h9) rfl rfl rfl d_Mod_drop_27 rfl (toE_sI (ci := 8) (k := 0) t2 rfl) (fun H locs hR => ?_)
  obtain ⟨h3, eh3⟩ : ∃ z, z = sI h 800 a1 s0 := ⟨_, rfl⟩
  rw [← eh3] at hR
  have hw := hw h3 eh3
  refine mx_aload_n (r := some v0) hx hb d_Mod_drop_30 rfl (lv_at hl 0 rfl) ?_
  obtain ⟨t4, hw⟩ := hw
  refine mx_get (ci := 8) (C := "NetJoinsModel") (T := F_Mod) (N := 33) hx hb hW hown hK.1 hR (a := v0) rfl t4 rfl i_Mod 0 0 (by decide) rfl kw_1135 (fun _ h9 => h9) d_Mod_drop_31 ?_
  refine lv_if_eq (tgt := 39) hx hb d_Mod_drop_34 (by decide) (fun c5 => ?_) (fun c5 => ?_)
  · have hw := hw.1 c5
    refine mx_aload_n (r := some v0) hx hb d_Mod_drop_39 rfl (lv_at hl 0 rfl) ?_
    obtain ⟨t6, hw⟩ := hw
    refine mx_get (ci := 8) (C := "NetJoinsModel") (T := F_Mod) (N := 33) hx hb hW hown hK.1 hR (a := v0) rfl t6 rfl i_Mod 7 2 (by decide) rfl kw_1142 (fun _ h9 => h9) d_Mod_drop_40 ?_
    refine lv_iload_n hx hb d_Mod_drop_43 rfl (lv_at hl 1 rfl) ?_
    refine lv_iconst (v := 1) hx hb d_Mod_drop_44 (by decide) ?_
    obtain ⟨a7, ea7, t8, t8i, hw⟩ := hw
    obtain ⟨z9, hw⟩ := hw
    refine mx_zast hx hb hK.1 hR (a := a7) ea7 t8 z9 t8i d_Mod_drop_45 (fun H locs hR => ?_)
    obtain ⟨h10, eh10⟩ : ∃ z, z = sA h3 a7 x1.toNatClampNeg (1 : Int32) := ⟨_, rfl⟩
    rw [← eh10] at hR
    have hw := hw h10 eh10
    refine mx_aload_n (r := some v0) hx hb d_Mod_drop_46 rfl (lv_at hl 0 rfl) ?_
    obtain ⟨t13, hw⟩ := hw
    refine mx_callv (va_runV (b := v0) (As := []) (rest := []) ⟨hx, hb, hml, hown, hW⟩ (mt_Mod_anew l D cs Z _ hw) (mx_cwV hW ok_Mod_anew kw_1248 rfl rfl ⟨Nat.le_of_ble_eq_true rfl, Nat.le_of_ble_eq_true rfl⟩) (mx_preV hK hZ hA hR (ci := 8) rfl t13) rfl rfl hl.1 rfl (lv_room (Nat.le_of_ble_eq_true rfl)) d_Mod_drop_47 ⟨Nat.le_of_ble_eq_true rfl, Nat.le_of_ble_eq_true rfl⟩) hR hA (fun h12 H locs hw hR => ?_)
    try dsimp only at hw
    refine mx_aload_n (r := some v0) hx hb d_Mod_drop_50 rfl (lv_at hl 0 rfl) ?_
    obtain ⟨t14, hw⟩ := hw
    refine mx_get (ci := 8) (C := "NetJoinsModel") (T := F_Mod) (N := 33) hx hb hW hown hK.1 hR (a := v0) rfl t14 rfl i_Mod 31 0 (by decide) rfl kw_1166 (fun _ h9 => h9) d_Mod_drop_51 ?_
    exact mx_iret hx hb hr hlocks hR hw d_Mod_drop_54
  · have hw := hw.2 c5
    refine lv_iconst (v := 0) hx hb d_Mod_drop_37 (by decide) ?_
    exact mx_iret hx hb hr hlocks hR hw d_Mod_drop_38
set_option maxHeartbeats 4000000 in
set_option maxRecDepth 100000 in
theorem mn_Mod_drop_26 {D : va_G} {cs : CS} {Z : Nat → Nat} {h0 : HS} {p : Program} {l : Launch} {e : Env} {s : State} {m : MethodId} {args : Array Value} {below : List Frame} {meth : Method} {c : Code} {v0 : Nat} (C : mC D cs Z h0 y_Mod_drop c_Mod_drop 2 (some .int) p s m args meth c) (post : Int32 → HS → Prop) : ∀ (x1 : Int32) (s0 : Option Nat) (h : HS) (H : Heap) (locs : List Loc) (ls : Array Slot), wj_Mod_drop_26 Z post v0 x1 s0 h → lv_has ls 2 [(0, va_rf (some v0)), (1, .int x1)] → mR D cs (fA h0 s.heap.size) h s.heap H locs → W p l e ({ frames := 8, cells := 0, slots := 0, locals := 243 } : Room) s m args below meth c H locs 0 0 (MQ below (va_Qi post (mB D cs h0 s.heap.size) (fA h0 s.heap.size)) args s 0 0 (fA h0 s.heap.size)) (F0 m 26 ls [va_rf s0]) := by
  obtain ⟨hx, hb, hr, hml, hown, hW, hlocks, hnm, hK, hZ⟩ := id C
  have hown : s.vm.findClass "NetJoinsModel" = some m.cls := hown
  have hA : ∀ q, s.heap.size ≤ q → fA h0 s.heap.size q := fun _ h => Or.inr h
  intro x1 s0 h H locs ls hw hl hR
  unfold wj_Mod_drop_26 at hw
  refine lv_iconst (v := 1) hx hb d_Mod_drop_26 (by decide) ?_
  exact mn_Mod_drop_27 C post x1 (1 : Int32) s0 _ _ _ _ hw (lv_sub hl [0, 1] rfl) hR
set_option maxHeartbeats 4000000 in
set_option maxRecDepth 100000 in
theorem mt_Mod_drop (l : Launch) (D : va_G) (cs : CS) (Z : Nat → Nat) (sz : Nat) {post : Int32 → HS → Prop} {h : HS} {v0 : Nat} {x1 : Int32} (hw : wp_Mod_drop Z post h v0 x1) : Met l y_Mod_drop (Cond.code y_Mod_drop c_Mod_drop 2 (some .int) :: WA) ({ frames := 8, cells := 0, slots := 0, locals := 243 } : Room) (mPc D cs Z h sz [va_rf (some v0), .int x1]) (va_Qi post (mB D cs h sz) (fA h sz)) 0 0 (fA h sz) := by
  refine mx_met (fun sz => va_Qi post (mB D cs h sz) (fA h sz)) (by decide) (by simp [lg_sl, mx_rf_cat, cat_i, cat_l]) ?_
  intro p e s m args below meth c C hR ls hl
  have hl : lv_has ls 2 [(0, va_rf (some v0)), (1, .int x1)] := hl
  obtain ⟨hx, hb, hr, hml, hown, hW, hlocks, hnm, hK, hZ⟩ := id C
  have hown : s.vm.findClass "NetJoinsModel" = some m.cls := hown
  have hA : ∀ q, s.heap.size ≤ q → fA h s.heap.size q := fun _ h => Or.inr h
  unfold wp_Mod_drop at hw
  refine mx_aload_n (r := some v0) hx hb d_Mod_drop_0 rfl (lv_at hl 0 rfl) ?_
  refine lv_iload_n hx hb d_Mod_drop_1 rfl (lv_at hl 1 rfl) ?_
  refine lv_if_lt (tgt := 26) hx hb d_Mod_drop_2 (by decide) (fun c1 => ?_) (fun c1 => ?_)
  · have hw := hw.1 c1
    exact mn_Mod_drop_26 C post x1 (some v0) _ _ _ _ hw (lv_sub hl [0, 1] rfl) hR
  · have hw := hw.2 c1
    refine lv_iload_n hx hb d_Mod_drop_5 rfl (lv_at hl 1 rfl) ?_
    refine mx_aload_n (r := some v0) hx hb d_Mod_drop_6 rfl (lv_at hl 0 rfl) ?_
    obtain ⟨t2, hw⟩ := hw
    refine mx_get (ci := 8) (C := "NetJoinsModel") (T := F_Mod) (N := 33) hx hb hW hown hK.1 hR (a := v0) rfl t2 rfl i_Mod 4 0 (by decide) rfl kw_1139 (fun _ h9 => h9) d_Mod_drop_7 ?_
    refine lv_icmp_ge (tgt := 26) hx hb d_Mod_drop_10 (by decide) (fun c3 => ?_) (fun c3 => ?_)
    · have hw := hw.1 c3
      exact mn_Mod_drop_26 C post x1 (some v0) _ _ _ _ hw (lv_sub hl [0, 1] rfl) hR
    · have hw := hw.2 c3
      refine mx_aload_n (r := some v0) hx hb d_Mod_drop_13 rfl (lv_at hl 0 rfl) ?_
      obtain ⟨t4, hw⟩ := hw
      refine mx_get (ci := 8) (C := "NetJoinsModel") (T := F_Mod) (N := 33) hx hb hW hown hK.1 hR (a := v0) rfl t4 rfl i_Mod 7 2 (by decide) rfl kw_1142 (fun _ h9 => h9) d_Mod_drop_14 ?_
      refine lv_iload_n hx hb d_Mod_drop_17 rfl (lv_at hl 1 rfl) ?_
      obtain ⟨a5, ea5, t6, t6i, hw⟩ := hw
      refine mx_zald hx hb hK.1 hR (a := a5) ea5 t6 t6i d_Mod_drop_18 ?_
      refine lv_if_ne (tgt := 26) hx hb d_Mod_drop_19 (by decide) (fun c7 => ?_) (fun c7 => ?_)
      · have hw := hw.1 c7
        exact mn_Mod_drop_26 C post x1 (some v0) _ _ _ _ hw (lv_sub hl [0, 1] rfl) hR
      · have hw := hw.2 c7
        refine lv_iconst (v := 0) hx hb d_Mod_drop_22 (by decide) ?_
        refine lv_goto (tgt := 27) hx hb d_Mod_drop_23 (by decide) ?_
        exact mn_Mod_drop_27 C post x1 (0 : Int32) (some v0) _ _ _ _ hw (lv_sub hl [0, 1] rfl) hR
