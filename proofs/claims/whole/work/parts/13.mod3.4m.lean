set_option maxHeartbeats 4000000 in
set_option maxRecDepth 100000 in
theorem mt_Mod_nets (l : Launch) (D : va_G) (cs : CS) (Z : Nat → Nat) (sz : Nat) {post : Int32 → HS → Prop} {h : HS} {v0 : Nat}  (hw : wp_Mod_nets Z post h v0 ) : Met l y_Mod_nets (Cond.code y_Mod_nets c_Mod_nets 1 (some .int) :: WA) ({ frames := 2, cells := 0, slots := 0, locals := 100 } : Room) (mPc D cs Z h sz [va_rf (some v0)]) (va_Qi post (mB D cs h sz) (fA h sz)) 0 0 (fA h sz) := by
  refine mx_met (fun sz => va_Qi post (mB D cs h sz) (fA h sz)) (by decide) (by simp [lg_sl, mx_rf_cat, cat_i, cat_l]) ?_
  intro p e s m args below meth c C hR ls hl
  have hl : lv_has ls 1 [(0, va_rf (some v0))] := hl
  obtain ⟨hx, hb, hr, hml, hown, hW, hlocks, hnm, hK, hZ⟩ := id C
  have hown : s.vm.findClass "NetJoinsModel" = some m.cls := hown
  have hA : ∀ q, s.heap.size ≤ q → fA h s.heap.size q := fun _ h => Or.inr h
  unfold wp_Mod_nets at hw
  refine mx_aload_n (r := some v0) hx hb d_Mod_nets_0 rfl (lv_at hl 0 rfl) ?_
  refine lv_iconst (v := 0) hx hb d_Mod_nets_1 (by decide) ?_
  obtain ⟨t1, hw⟩ := hw
  refine mx_put (ci := 8) (C := "NetJoinsModel") (T := F_Mod) (N := 33) (v := .int (0 : Int32)) (h' := sI h 800 v0 (0 : Int32)) hx hb hW hown hK.1 hR (a := v0) rfl t1 rfl i_Mod t_Mod t_Mod_ok n_Mod 0 0 (by decide) rfl kw_1135 (fun _ h9 => h9) rfl rfl rfl d_Mod_nets_2 rfl (toE_sI (ci := 8) (k := 0) t1 rfl) (fun H locs hR => ?_)
  obtain ⟨h2, eh2⟩ : ∃ z, z = sI h 800 v0 (0 : Int32) := ⟨_, rfl⟩
  rw [← eh2] at hR
  have hw := hw h2 eh2
  refine mx_aload_n (r := some v0) hx hb d_Mod_nets_5 rfl (lv_at hl 0 rfl) ?_
  obtain ⟨t3, hw⟩ := hw
  refine mx_get (ci := 8) (C := "NetJoinsModel") (T := F_Mod) (N := 33) hx hb hW hown hK.1 hR (a := v0) rfl t3 rfl i_Mod 29 0 (by decide) rfl kw_1164 (fun _ h9 => h9) d_Mod_nets_6 ?_
  exact mx_iret hx hb hr hlocks hR hw d_Mod_nets_9
set_option maxHeartbeats 4000000 in
set_option maxRecDepth 100000 in
theorem mn_Mod_copySheet_42 {D : va_G} {cs : CS} {Z : Nat → Nat} {h0 : HS} {p : Program} {l : Launch} {e : Env} {s : State} {m : MethodId} {args : Array Value} {below : List Frame} {meth : Method} {c : Code} {v0 : Nat} (C : mC D cs Z h0 y_Mod_copySheet c_Mod_copySheet 5 (some .int) p s m args meth c) (post : Int32 → HS → Prop) (K5 : Int32 × Int32 × Int32 × Int32 × HS → Prop) (hK5 : ∀ (x1 : Int32) (x2 : Int32) (x3 : Int32) (x4 : Int32) (h : HS) (H : Heap) (locs : List Loc) (ls : Array Slot), K5 (x1, x2, x3, x4, h) → lv_has ls 5 [(0, va_rf (some v0)), (1, .int x1), (2, .int x2), (3, .int x3), (4, .int x4)] → mR D cs (fA h0 s.heap.size) h s.heap H locs → W p l e ({ frames := 2, cells := 0, slots := 0, locals := 100 } : Room) s m args below meth c H locs 0 0 (MQ below (va_Qi post (mB D cs h0 s.heap.size) (fA h0 s.heap.size)) args s 0 0 (fA h0 s.heap.size)) (F0 m 5 ls [])) : ∀ (x1 : Int32) (x2 : Int32) (x3 : Int32) (x4 : Int32) (h : HS) (H : Heap) (locs : List Loc) (ls : Array Slot), wj_Mod_copySheet_42 Z post K5 v0 x1 x2 x3 x4 h → lv_has ls 5 [(0, va_rf (some v0)), (1, .int x1), (2, .int x2), (3, .int x3), (4, .int x4)] → mR D cs (fA h0 s.heap.size) h s.heap H locs → W p l e ({ frames := 2, cells := 0, slots := 0, locals := 100 } : Room) s m args below meth c H locs 0 0 (MQ below (va_Qi post (mB D cs h0 s.heap.size) (fA h0 s.heap.size)) args s 0 0 (fA h0 s.heap.size)) (F0 m 42 ls []) := by
  obtain ⟨hx, hb, hr, hml, hown, hW, hlocks, hnm, hK, hZ⟩ := id C
  have hown : s.vm.findClass "NetJoinsModel" = some m.cls := hown
  have hA : ∀ q, s.heap.size ≤ q → fA h0 s.heap.size q := fun _ h => Or.inr h
  intro x1 x2 x3 x4 h H locs ls hw hl hR
  unfold wj_Mod_copySheet_42 at hw
  obtain ⟨y1, ey1⟩ : ∃ y : Int32, y = x4 + (1 : Int32) := ⟨_, rfl⟩
  have hw := hw y1 ey1
  refine lv_iinc (v := y1) (lv' := [(4, .int y1), (0, va_rf (some v0)), (1, .int x1), (2, .int x2), (3, .int x3)]) hx hb d_Mod_copySheet_42 hl (k := 4) rfl (by rw [ey1]; rfl) (by decide) rfl (fun ls hl => ?_)
  refine lv_goto (tgt := 5) hx hb d_Mod_copySheet_45 (by decide) ?_
  exact hK5 x1 x2 x3 y1 _ _ _ _ hw (lv_sub hl [1, 2, 3, 4, 0] rfl) hR
set_option maxHeartbeats 4000000 in
set_option maxRecDepth 100000 in
theorem mn_Mod_copySheet_5 {D : va_G} {cs : CS} {Z : Nat → Nat} {h0 : HS} {p : Program} {l : Launch} {e : Env} {s : State} {m : MethodId} {args : Array Value} {below : List Frame} {meth : Method} {c : Code} {v0 : Nat} (C : mC D cs Z h0 y_Mod_copySheet c_Mod_copySheet 5 (some .int) p s m args meth c) (post : Int32 → HS → Prop) : ∀ (n : Nat) (x1 : Int32) (x2 : Int32) (x3 : Int32) (x4 : Int32) (h : HS) (H : Heap) (locs : List Loc) (ls : Array Slot), lpF (wb_Mod_copySheet_5 Z post v0) n (x1, x2, x3, x4, h) → lv_has ls 5 [(0, va_rf (some v0)), (1, .int x1), (2, .int x2), (3, .int x3), (4, .int x4)] → mR D cs (fA h0 s.heap.size) h s.heap H locs → W p l e ({ frames := 2, cells := 0, slots := 0, locals := 100 } : Room) s m args below meth c H locs 0 0 (MQ below (va_Qi post (mB D cs h0 s.heap.size) (fA h0 s.heap.size)) args s 0 0 (fA h0 s.heap.size)) (F0 m 5 ls []) := by
  obtain ⟨hx, hb, hr, hml, hown, hW, hlocks, hnm, hK, hZ⟩ := id C
  have hown : s.vm.findClass "NetJoinsModel" = some m.cls := hown
  have hA : ∀ q, s.heap.size ≤ q → fA h0 s.heap.size q := fun _ h => Or.inr h
  intro n
  induction n with
  | zero => intro x1 x2 x3 x4 h H locs ls hw; exact hw.elim
  | succ n ih =>
    intro x1 x2 x3 x4 h H locs ls hw hl hR
    have hw : wb_Mod_copySheet_5 Z post v0 (lpF (wb_Mod_copySheet_5 Z post v0) n) (x1, x2, x3, x4, h) := hw
    unfold wb_Mod_copySheet_5 at hw
    dsimp only at hw
    refine lv_iload hx hb d_Mod_copySheet_5 (lv_at hl 4 rfl) ?_
    refine mx_aload_n (r := some v0) hx hb d_Mod_copySheet_7 rfl (lv_at hl 0 rfl) ?_
    obtain ⟨t1, hw⟩ := hw
    refine mx_get (ci := 8) (C := "NetJoinsModel") (T := F_Mod) (N := 33) hx hb hW hown hK.1 hR (a := v0) rfl t1 rfl i_Mod 1 0 (by decide) rfl kw_1136 (fun _ h9 => h9) d_Mod_copySheet_8 ?_
    refine lv_icmp_ge (tgt := 48) hx hb d_Mod_copySheet_11 (by decide) (fun c2 => ?_) (fun c2 => ?_)
    · have hw := hw.1 c2
      refine lv_iconst (v := (-1)) hx hb d_Mod_copySheet_48 (by decide) ?_
      exact mx_iret hx hb hr hlocks hR hw d_Mod_copySheet_49
    · have hw := hw.2 c2
      refine lv_iload_n hx hb d_Mod_copySheet_14 rfl (lv_at hl 2 rfl) ?_
      refine lv_if_lt (tgt := 48) hx hb d_Mod_copySheet_15 (by decide) (fun c3 => ?_) (fun c3 => ?_)
      · have hw := hw.1 c3
        refine lv_iconst (v := (-1)) hx hb d_Mod_copySheet_48 (by decide) ?_
        exact mx_iret hx hb hr hlocks hR hw d_Mod_copySheet_49
      · have hw := hw.2 c3
        refine mx_aload_n (r := some v0) hx hb d_Mod_copySheet_18 rfl (lv_at hl 0 rfl) ?_
        obtain ⟨t4, hw⟩ := hw
        refine mx_get (ci := 8) (C := "NetJoinsModel") (T := F_Mod) (N := 33) hx hb hW hown hK.1 hR (a := v0) rfl t4 rfl i_Mod 3 2 (by decide) rfl kw_1138 (fun _ h9 => h9) d_Mod_copySheet_19 ?_
        refine lv_iload hx hb d_Mod_copySheet_22 (lv_at hl 4 rfl) ?_
        obtain ⟨a5, ea5, t6, t6i, hw⟩ := hw
        refine mx_iald hx hb hK.1 hR (a := a5) ea5 t6 t6i d_Mod_copySheet_24 ?_
        refine lv_iload_n hx hb d_Mod_copySheet_25 rfl (lv_at hl 1 rfl) ?_
        refine lv_icmp_eq (tgt := 32) hx hb d_Mod_copySheet_26 (by decide) (fun c7 => ?_) (fun c7 => ?_)
        · have hw := hw.1 c7
          refine lv_iload_n hx hb d_Mod_copySheet_32 rfl (lv_at hl 3 rfl) ?_
          refine lv_if_ne (tgt := 39) hx hb d_Mod_copySheet_33 (by decide) (fun c8 => ?_) (fun c8 => ?_)
          · have hw := hw.1 c8
            obtain ⟨y9, ey9⟩ : ∃ y : Int32, y = x3 + (-1 : Int32) := ⟨_, rfl⟩
            have hw := hw y9 ey9
            refine lv_iinc (v := y9) (lv' := [(3, .int y9), (0, va_rf (some v0)), (1, .int x1), (2, .int x2), (4, .int x4)]) hx hb d_Mod_copySheet_39 hl (k := 3) rfl (by rw [ey9]; rfl) (by decide) rfl (fun ls hl => ?_)
            exact mn_Mod_copySheet_42 C post (lpF (wb_Mod_copySheet_5 Z post v0) n) ih x1 x2 y9 x4 _ _ _ _ hw (lv_sub hl [1, 2, 3, 0, 4] rfl) hR
          · have hw := hw.2 c8
            refine lv_iload hx hb d_Mod_copySheet_36 (lv_at hl 4 rfl) ?_
            exact mx_iret hx hb hr hlocks hR hw d_Mod_copySheet_38
        · have hw := hw.2 c7
          refine lv_goto (tgt := 42) hx hb d_Mod_copySheet_29 (by decide) ?_
          exact mn_Mod_copySheet_42 C post (lpF (wb_Mod_copySheet_5 Z post v0) n) ih x1 x2 x3 x4 _ _ _ _ hw (lv_sub hl [0, 1, 2, 3, 4] rfl) hR
set_option maxHeartbeats 4000000 in
set_option maxRecDepth 100000 in
theorem mt_Mod_copySheet (l : Launch) (D : va_G) (cs : CS) (Z : Nat → Nat) (sz : Nat) {post : Int32 → HS → Prop} {h : HS} {v0 : Nat} {x1 : Int32} {x2 : Int32} (hw : wp_Mod_copySheet Z post h v0 x1 x2) : Met l y_Mod_copySheet (Cond.code y_Mod_copySheet c_Mod_copySheet 5 (some .int) :: WA) ({ frames := 2, cells := 0, slots := 0, locals := 100 } : Room) (mPc D cs Z h sz [va_rf (some v0), .int x1, .int x2]) (va_Qi post (mB D cs h sz) (fA h sz)) 0 0 (fA h sz) := by
  refine mx_met (fun sz => va_Qi post (mB D cs h sz) (fA h sz)) (by decide) (by simp [lg_sl, mx_rf_cat, cat_i, cat_l]) ?_
  intro p e s m args below meth c C hR ls hl
  have hl : lv_has ls 5 [(0, va_rf (some v0)), (1, .int x1), (2, .int x2)] := hl
  obtain ⟨hx, hb, hr, hml, hown, hW, hlocks, hnm, hK, hZ⟩ := id C
  have hown : s.vm.findClass "NetJoinsModel" = some m.cls := hown
  have hA : ∀ q, s.heap.size ≤ q → fA h s.heap.size q := fun _ h => Or.inr h
  unfold wp_Mod_copySheet at hw
  refine lv_iload_n hx hb d_Mod_copySheet_0 rfl (lv_at hl 2 rfl) ?_
  refine lv_istore_n (i := 3) (lv' := [(3, .int x2), (0, va_rf (some v0)), (1, .int x1), (2, .int x2)]) hx hb d_Mod_copySheet_1 rfl hl (by decide) rfl (fun ls hl => ?_)
  refine lv_iload_n hx hb d_Mod_copySheet_2 rfl (lv_at hl 2 rfl) ?_
  refine lv_istore (i := 4) (lv' := [(4, .int x1), (3, .int x2), (0, va_rf (some v0)), (1, .int x1), (2, .int x2)]) hx hb d_Mod_copySheet_3 hl (by decide) rfl (fun ls hl => ?_)
  obtain ⟨n9, hw⟩ := hw
  exact mn_Mod_copySheet_5 C post n9 x1 x2 x2 x1 _ _ _ _ hw (lv_sub hl [2, 3, 4, 1, 0] rfl) hR
set_option maxHeartbeats 4000000 in
set_option maxRecDepth 100000 in
theorem mn_Mod_netOf_39 {D : va_G} {cs : CS} {Z : Nat → Nat} {h0 : HS} {p : Program} {l : Launch} {e : Env} {s : State} {m : MethodId} {args : Array Value} {below : List Frame} {meth : Method} {c : Code} {v0 : Nat} (C : mC D cs Z h0 y_Mod_netOf c_Mod_netOf 4 (some .int) p s m args meth c) (post : Int32 → HS → Prop) : ∀ (x1 : Int32) (x3 : Int32) (s0 : Int32) (s1 : Option Nat) (h : HS) (H : Heap) (locs : List Loc) (ls : Array Slot), wj_Mod_netOf_39 Z post v0 x1 x3 s0 s1 h → lv_has ls 4 [(0, va_rf (some v0)), (1, .int x1), (3, .int x3)] → mR D cs (fA h0 s.heap.size) h s.heap H locs → W p l e ({ frames := 3, cells := 0, slots := 0, locals := 124 } : Room) s m args below meth c H locs 0 0 (MQ below (va_Qi post (mB D cs h0 s.heap.size) (fA h0 s.heap.size)) args s 0 0 (fA h0 s.heap.size)) (F0 m 39 ls [.int s0, va_rf s1]) := by
  obtain ⟨hx, hb, hr, hml, hown, hW, hlocks, hnm, hK, hZ⟩ := id C
  have hown : s.vm.findClass "NetJoinsModel" = some m.cls := hown
  have hA : ∀ q, s.heap.size ≤ q → fA h0 s.heap.size q := fun _ h => Or.inr h
  intro x1 x3 s0 s1 h H locs ls hw hl hR
  unfold wj_Mod_netOf_39 at hw
  obtain ⟨a1, ea1, t2, hw⟩ := hw
  refine mx_put (ci := 8) (C := "NetJoinsModel") (T := F_Mod) (N := 33) (v := .int s0) (h' := sI h 800 a1 s0) hx hb hW hown hK.1 hR (a := a1) ea1 t2 rfl i_Mod t_Mod t_Mod_ok n_Mod 0 0 (by decide) rfl kw_1135 (fun _ h9 => h9) rfl rfl rfl d_Mod_netOf_39 rfl (toE_sI (ci := 8) (k := 0) t2 rfl) (fun H locs hR => ?_)
  obtain ⟨h3, eh3⟩ : ∃ z, z = sI h 800 a1 s0 := ⟨_, rfl⟩
  rw [← eh3] at hR
  have hw := hw h3 eh3
  refine mx_aload_n (r := some v0) hx hb d_Mod_netOf_42 rfl (lv_at hl 0 rfl) ?_
  obtain ⟨t4, hw⟩ := hw
  refine mx_get (ci := 8) (C := "NetJoinsModel") (T := F_Mod) (N := 33) hx hb hW hown hK.1 hR (a := v0) rfl t4 rfl i_Mod 0 0 (by decide) rfl kw_1135 (fun _ h9 => h9) d_Mod_netOf_43 ?_
  refine lv_if_ne (tgt := 63) hx hb d_Mod_netOf_46 (by decide) (fun c5 => ?_) (fun c5 => ?_)
  · have hw := hw.1 c5
    refine lv_iconst (v := 0) hx hb d_Mod_netOf_63 (by decide) ?_
    exact mx_iret hx hb hr hlocks hR hw d_Mod_netOf_64
  · have hw := hw.2 c5
    refine mx_aload_n (r := some v0) hx hb d_Mod_netOf_49 rfl (lv_at hl 0 rfl) ?_
    obtain ⟨t6, hw⟩ := hw
    refine mx_get (ci := 8) (C := "NetJoinsModel") (T := F_Mod) (N := 33) hx hb hW hown hK.1 hR (a := v0) rfl t6 rfl i_Mod 27 2 (by decide) rfl kw_1162 (fun _ h9 => h9) d_Mod_netOf_50 ?_
    refine lv_bipush (v := 16) hx hb d_Mod_netOf_53 (by decide) ?_
    refine lv_iload_n hx hb d_Mod_netOf_55 rfl (lv_at hl 1 rfl) ?_
    refine lv_imul hx hb d_Mod_netOf_56 ?_
    refine lv_iload_n hx hb d_Mod_netOf_57 rfl (lv_at hl 2 rfl) ?_
    refine lv_iadd hx hb d_Mod_netOf_58 ?_
    obtain ⟨a7, ea7, t8, t8i, hw⟩ := hw
    refine mx_iald hx hb hK.1 hR (a := a7) ea7 t8 t8i d_Mod_netOf_59 ?_
    refine lv_goto (tgt := 64) hx hb d_Mod_netOf_60 (by decide) ?_
    exact mx_iret hx hb hr hlocks hR hw d_Mod_netOf_64
set_option maxHeartbeats 4000000 in
set_option maxRecDepth 100000 in
theorem mn_Mod_netOf_27 {D : va_G} {cs : CS} {Z : Nat → Nat} {h0 : HS} {p : Program} {l : Launch} {e : Env} {s : State} {m : MethodId} {args : Array Value} {below : List Frame} {meth : Method} {c : Code} {v0 : Nat} (C : mC D cs Z h0 y_Mod_netOf c_Mod_netOf 4 (some .int) p s m args meth c) (post : Int32 → HS → Prop) : ∀ (x1 : Int32) (s0 : Int32) (h : HS) (H : Heap) (locs : List Loc) (ls : Array Slot), wj_Mod_netOf_27 Z post v0 x1 s0 h → lv_has ls 4 [(0, va_rf (some v0)), (1, .int x1)] → mR D cs (fA h0 s.heap.size) h s.heap H locs → W p l e ({ frames := 3, cells := 0, slots := 0, locals := 124 } : Room) s m args below meth c H locs 0 0 (MQ below (va_Qi post (mB D cs h0 s.heap.size) (fA h0 s.heap.size)) args s 0 0 (fA h0 s.heap.size)) (F0 m 27 ls [.int s0]) := by
  obtain ⟨hx, hb, hr, hml, hown, hW, hlocks, hnm, hK, hZ⟩ := id C
  have hown : s.vm.findClass "NetJoinsModel" = some m.cls := hown
  have hA : ∀ q, s.heap.size ≤ q → fA h0 s.heap.size q := fun _ h => Or.inr h
  intro x1 s0 h H locs ls hw hl hR
  unfold wj_Mod_netOf_27 at hw
  refine lv_istore_n (i := 3) (lv' := [(3, .int s0), (0, va_rf (some v0)), (1, .int x1)]) hx hb d_Mod_netOf_27 rfl hl (by decide) rfl (fun ls hl => ?_)
  refine mx_aload_n (r := some v0) hx hb d_Mod_netOf_28 rfl (lv_at hl 1 rfl) ?_
  refine lv_iload_n hx hb d_Mod_netOf_29 rfl (lv_at hl 0 rfl) ?_
  refine lv_iconst (v := (-1)) hx hb d_Mod_netOf_30 (by decide) ?_
  refine lv_icmp_ne (tgt := 38) hx hb d_Mod_netOf_31 (by decide) (fun c1 => ?_) (fun c1 => ?_)
  · have hw := hw.1 c1
    refine lv_iconst (v := 0) hx hb d_Mod_netOf_38 (by decide) ?_
    exact mn_Mod_netOf_39 C post x1 s0 (0 : Int32) (some v0) _ _ _ _ hw (lv_sub hl [1, 2, 0] rfl) hR
  · have hw := hw.2 c1
    refine lv_iconst (v := 1) hx hb d_Mod_netOf_34 (by decide) ?_
    refine lv_goto (tgt := 39) hx hb d_Mod_netOf_35 (by decide) ?_
    exact mn_Mod_netOf_39 C post x1 s0 (1 : Int32) (some v0) _ _ _ _ hw (lv_sub hl [1, 2, 0] rfl) hR
set_option maxHeartbeats 4000000 in
set_option maxRecDepth 100000 in
theorem mn_Mod_netOf_12 {D : va_G} {cs : CS} {Z : Nat → Nat} {h0 : HS} {p : Program} {l : Launch} {e : Env} {s : State} {m : MethodId} {args : Array Value} {below : List Frame} {meth : Method} {c : Code} {v0 : Nat} (C : mC D cs Z h0 y_Mod_netOf c_Mod_netOf 4 (some .int) p s m args meth c) (post : Int32 → HS → Prop) : ∀ (x1 : Int32) (h : HS) (H : Heap) (locs : List Loc) (ls : Array Slot), wj_Mod_netOf_12 Z post v0 x1 h → lv_has ls 4 [(0, va_rf (some v0)), (1, .int x1)] → mR D cs (fA h0 s.heap.size) h s.heap H locs → W p l e ({ frames := 3, cells := 0, slots := 0, locals := 124 } : Room) s m args below meth c H locs 0 0 (MQ below (va_Qi post (mB D cs h0 s.heap.size) (fA h0 s.heap.size)) args s 0 0 (fA h0 s.heap.size)) (F0 m 12 ls []) := by
  obtain ⟨hx, hb, hr, hml, hown, hW, hlocks, hnm, hK, hZ⟩ := id C
  have hown : s.vm.findClass "NetJoinsModel" = some m.cls := hown
  have hA : ∀ q, s.heap.size ≤ q → fA h0 s.heap.size q := fun _ h => Or.inr h
  intro x1 h H locs ls hw hl hR
  unfold wj_Mod_netOf_12 at hw
  refine lv_iconst (v := (-1)) hx hb d_Mod_netOf_12 (by decide) ?_
  refine lv_goto (tgt := 27) hx hb d_Mod_netOf_13 (by decide) ?_
  exact mn_Mod_netOf_27 C post x1 (-1 : Int32) _ _ _ _ hw (lv_sub hl [0, 1] rfl) hR
set_option maxHeartbeats 4000000 in
set_option maxRecDepth 100000 in
theorem mt_Mod_netOf (l : Launch) (D : va_G) (cs : CS) (Z : Nat → Nat) (sz : Nat) {post : Int32 → HS → Prop} {h : HS} {v0 : Nat} {x1 : Int32} {x2 : Int32} (hw : wp_Mod_netOf Z post h v0 x1 x2) : Met l y_Mod_netOf (Cond.code y_Mod_netOf c_Mod_netOf 4 (some .int) :: WA) ({ frames := 3, cells := 0, slots := 0, locals := 124 } : Room) (mPc D cs Z h sz [va_rf (some v0), .int x1, .int x2]) (va_Qi post (mB D cs h sz) (fA h sz)) 0 0 (fA h sz) := by
  refine mx_met (fun sz => va_Qi post (mB D cs h sz) (fA h sz)) (by decide) (by simp [lg_sl, mx_rf_cat, cat_i, cat_l]) ?_
  intro p e s m args below meth c C hR ls hl
  have hl : lv_has ls 4 [(0, va_rf (some v0)), (1, .int x1), (2, .int x2)] := hl
  obtain ⟨hx, hb, hr, hml, hown, hW, hlocks, hnm, hK, hZ⟩ := id C
  have hown : s.vm.findClass "NetJoinsModel" = some m.cls := hown
  have hA : ∀ q, s.heap.size ≤ q → fA h s.heap.size q := fun _ h => Or.inr h
  unfold wp_Mod_netOf at hw
  refine lv_iload_n hx hb d_Mod_netOf_0 rfl (lv_at hl 1 rfl) ?_
  refine lv_if_lt (tgt := 12) hx hb d_Mod_netOf_1 (by decide) (fun c1 => ?_) (fun c1 => ?_)
  · have hw := hw.1 c1
    exact mn_Mod_netOf_12 C post x1 _ _ _ _ hw (lv_sub hl [0, 1] rfl) hR
  · have hw := hw.2 c1
    refine lv_iload_n hx hb d_Mod_netOf_4 rfl (lv_at hl 1 rfl) ?_
    refine mx_aload_n (r := some v0) hx hb d_Mod_netOf_5 rfl (lv_at hl 0 rfl) ?_
    obtain ⟨t2, hw⟩ := hw
    refine mx_get (ci := 8) (C := "NetJoinsModel") (T := F_Mod) (N := 33) hx hb hW hown hK.1 hR (a := v0) rfl t2 rfl i_Mod 15 0 (by decide) rfl kw_1150 (fun _ h9 => h9) d_Mod_netOf_6 ?_
    refine lv_icmp_lt (tgt := 16) hx hb d_Mod_netOf_9 (by decide) (fun c3 => ?_) (fun c3 => ?_)
    · have hw := hw.1 c3
      refine mx_aload_n (r := some v0) hx hb d_Mod_netOf_16 rfl (lv_at hl 0 rfl) ?_
      refine mx_aload_n (r := some v0) hx hb d_Mod_netOf_17 rfl (lv_at hl 0 rfl) ?_
      obtain ⟨t4, hw⟩ := hw
      refine mx_get (ci := 8) (C := "NetJoinsModel") (T := F_Mod) (N := 33) hx hb hW hown hK.1 hR (a := v0) rfl t4 rfl i_Mod 16 2 (by decide) rfl kw_1151 (fun _ h9 => h9) d_Mod_netOf_18 ?_
      refine lv_iload_n hx hb d_Mod_netOf_21 rfl (lv_at hl 1 rfl) ?_
      obtain ⟨a5, ea5, t6, t6i, hw⟩ := hw
      refine mx_iald hx hb hK.1 hR (a := a5) ea5 t6 t6i d_Mod_netOf_22 ?_
      refine lv_iload_n hx hb d_Mod_netOf_23 rfl (lv_at hl 2 rfl) ?_
      obtain ⟨t9, hw⟩ := hw
      refine mx_calli (va_runV (b := v0) (As := [.int (gA h a5 x1.toNatClampNeg), .int x2]) (rest := []) ⟨hx, hb, hml, hown, hW⟩ (mt_Mod_copySheet l D cs Z _ hw) (mx_cwV hW ok_Mod_copySheet kw_1360 rfl rfl ⟨Nat.le_of_ble_eq_true rfl, Nat.le_of_ble_eq_true rfl⟩) (mx_preV hK hZ hA hR (ci := 8) rfl t9) rfl rfl hl.1 rfl (lv_room (Nat.le_of_ble_eq_true rfl)) d_Mod_netOf_24 ⟨Nat.le_of_ble_eq_true rfl, Nat.le_of_ble_eq_true rfl⟩) hR hA (fun r7 h8 H locs hw hR => ?_)
      try dsimp only at hw
      exact mn_Mod_netOf_27 C post x1 r7 _ _ _ _ hw (lv_sub hl [0, 1] rfl) hR
    · have hw := hw.2 c3
      exact mn_Mod_netOf_12 C post x1 _ _ _ _ hw (lv_sub hl [0, 1] rfl) hR
set_option maxHeartbeats 4000000 in
set_option maxRecDepth 100000 in
theorem mn_Mod_rank_25 {D : va_G} {cs : CS} {Z : Nat → Nat} {h0 : HS} {p : Program} {l : Launch} {e : Env} {s : State} {m : MethodId} {args : Array Value} {below : List Frame} {meth : Method} {c : Code} {v0 : Nat} (C : mC D cs Z h0 y_Mod_rank c_Mod_rank 3 (some .boolean) p s m args meth c) (post : Int32 → HS → Prop) : ∀ (x1 : Int32) (x2 : Int32) (s0 : Int32) (s1 : Option Nat) (h : HS) (H : Heap) (locs : List Loc) (ls : Array Slot), wj_Mod_rank_25 Z post v0 x1 x2 s0 s1 h → lv_has ls 3 [(0, va_rf (some v0)), (1, .int x1), (2, .int x2)] → mR D cs (fA h0 s.heap.size) h s.heap H locs → W p l e ({ frames := 3, cells := 0, slots := 0, locals := 120 } : Room) s m args below meth c H locs 0 0 (MQ below (va_Qi post (mB D cs h0 s.heap.size) (fA h0 s.heap.size)) args s 0 0 (fA h0 s.heap.size)) (F0 m 25 ls [.int s0, va_rf s1]) := by
  obtain ⟨hx, hb, hr, hml, hown, hW, hlocks, hnm, hK, hZ⟩ := id C
  have hown : s.vm.findClass "NetJoinsModel" = some m.cls := hown
  have hA : ∀ q, s.heap.size ≤ q → fA h0 s.heap.size q := fun _ h => Or.inr h
  intro x1 x2 s0 s1 h H locs ls hw hl hR
  unfold wj_Mod_rank_25 at hw
  obtain ⟨a1, ea1, t2, hw⟩ := hw
  refine mx_put (ci := 8) (C := "NetJoinsModel") (T := F_Mod) (N := 33) (v := .int s0) (h' := sI h 800 a1 s0) hx hb hW hown hK.1 hR (a := a1) ea1 t2 rfl i_Mod t_Mod t_Mod_ok n_Mod 0 0 (by decide) rfl kw_1135 (fun _ h9 => h9) rfl rfl rfl d_Mod_rank_25 rfl (toE_sI (ci := 8) (k := 0) t2 rfl) (fun H locs hR => ?_)
  obtain ⟨h3, eh3⟩ : ∃ z, z = sI h 800 a1 s0 := ⟨_, rfl⟩
  rw [← eh3] at hR
  have hw := hw h3 eh3
  refine mx_aload_n (r := some v0) hx hb d_Mod_rank_28 rfl (lv_at hl 0 rfl) ?_
  obtain ⟨t4, hw⟩ := hw
  refine mx_get (ci := 8) (C := "NetJoinsModel") (T := F_Mod) (N := 33) hx hb hW hown hK.1 hR (a := v0) rfl t4 rfl i_Mod 0 0 (by decide) rfl kw_1135 (fun _ h9 => h9) d_Mod_rank_29 ?_
  refine lv_if_ne (tgt := 45) hx hb d_Mod_rank_32 (by decide) (fun c5 => ?_) (fun c5 => ?_)
  · have hw := hw.1 c5
    refine lv_iconst (v := 0) hx hb d_Mod_rank_45 (by decide) ?_
    exact mx_zret hx hb hr hlocks hR (Or.inl rfl) hw d_Mod_rank_46
  · have hw := hw.2 c5
    refine mx_aload_n (r := some v0) hx hb d_Mod_rank_35 rfl (lv_at hl 0 rfl) ?_
    obtain ⟨t6, hw⟩ := hw
    refine mx_get (ci := 8) (C := "NetJoinsModel") (T := F_Mod) (N := 33) hx hb hW hown hK.1 hR (a := v0) rfl t6 rfl i_Mod 24 2 (by decide) rfl kw_1159 (fun _ h9 => h9) d_Mod_rank_36 ?_
    refine lv_iload_n hx hb d_Mod_rank_39 rfl (lv_at hl 1 rfl) ?_
    obtain ⟨a7, ea7, t8, t8i, hw⟩ := hw
    refine mx_iald hx hb hK.1 hR (a := a7) ea7 t8 t8i d_Mod_rank_40 ?_
    refine lv_iload_n hx hb d_Mod_rank_41 rfl (lv_at hl 2 rfl) ?_
    refine lv_icmp_ne (tgt := 47) hx hb d_Mod_rank_42 (by decide) (fun c9 => ?_) (fun c9 => ?_)
    · have hw := hw.1 c9
      refine mx_aload_n (r := some v0) hx hb d_Mod_rank_47 rfl (lv_at hl 0 rfl) ?_
      obtain ⟨t10, hw⟩ := hw
      refine mx_get (ci := 8) (C := "NetJoinsModel") (T := F_Mod) (N := 33) hx hb hW hown hK.1 hR (a := v0) rfl t10 rfl i_Mod 24 2 (by decide) rfl kw_1159 (fun _ h9 => h9) d_Mod_rank_48 ?_
      refine lv_iload_n hx hb d_Mod_rank_51 rfl (lv_at hl 1 rfl) ?_
      refine lv_iload_n hx hb d_Mod_rank_52 rfl (lv_at hl 2 rfl) ?_
      obtain ⟨a11, ea11, t12, t12i, hw⟩ := hw
      refine mx_iast hx hb hK.1 hR (a := a11) ea11 t12 t12i d_Mod_rank_53 (fun H locs hR => ?_)
      obtain ⟨h13, eh13⟩ : ∃ z, z = sA h3 a11 x1.toNatClampNeg x2 := ⟨_, rfl⟩
      rw [← eh13] at hR
      have hw := hw h13 eh13
      refine lv_iconst (v := 1) hx hb d_Mod_rank_54 (by decide) ?_
      exact mx_zret hx hb hr hlocks hR (Or.inr rfl) hw d_Mod_rank_55
    · have hw := hw.2 c9
      refine lv_iconst (v := 0) hx hb d_Mod_rank_45 (by decide) ?_
      exact mx_zret hx hb hr hlocks hR (Or.inl rfl) hw d_Mod_rank_46
set_option maxHeartbeats 4000000 in
set_option maxRecDepth 100000 in
theorem mn_Mod_rank_24 {D : va_G} {cs : CS} {Z : Nat → Nat} {h0 : HS} {p : Program} {l : Launch} {e : Env} {s : State} {m : MethodId} {args : Array Value} {below : List Frame} {meth : Method} {c : Code} {v0 : Nat} (C : mC D cs Z h0 y_Mod_rank c_Mod_rank 3 (some .boolean) p s m args meth c) (post : Int32 → HS → Prop) : ∀ (x1 : Int32) (x2 : Int32) (s0 : Option Nat) (h : HS) (H : Heap) (locs : List Loc) (ls : Array Slot), wj_Mod_rank_24 Z post v0 x1 x2 s0 h → lv_has ls 3 [(0, va_rf (some v0)), (1, .int x1), (2, .int x2)] → mR D cs (fA h0 s.heap.size) h s.heap H locs → W p l e ({ frames := 3, cells := 0, slots := 0, locals := 120 } : Room) s m args below meth c H locs 0 0 (MQ below (va_Qi post (mB D cs h0 s.heap.size) (fA h0 s.heap.size)) args s 0 0 (fA h0 s.heap.size)) (F0 m 24 ls [va_rf s0]) := by
  obtain ⟨hx, hb, hr, hml, hown, hW, hlocks, hnm, hK, hZ⟩ := id C
  have hown : s.vm.findClass "NetJoinsModel" = some m.cls := hown
  have hA : ∀ q, s.heap.size ≤ q → fA h0 s.heap.size q := fun _ h => Or.inr h
  intro x1 x2 s0 h H locs ls hw hl hR
  unfold wj_Mod_rank_24 at hw
  refine lv_iconst (v := 1) hx hb d_Mod_rank_24 (by decide) ?_
  exact mn_Mod_rank_25 C post x1 x2 (1 : Int32) s0 _ _ _ _ hw (lv_sub hl [0, 1, 2] rfl) hR
set_option maxHeartbeats 4000000 in
set_option maxRecDepth 100000 in
theorem mt_Mod_rank (l : Launch) (D : va_G) (cs : CS) (Z : Nat → Nat) (sz : Nat) {post : Int32 → HS → Prop} {h : HS} {v0 : Nat} {x1 : Int32} {x2 : Int32} (hw : wp_Mod_rank Z post h v0 x1 x2) : Met l y_Mod_rank (Cond.code y_Mod_rank c_Mod_rank 3 (some .boolean) :: WA) ({ frames := 3, cells := 0, slots := 0, locals := 120 } : Room) (mPc D cs Z h sz [va_rf (some v0), .int x1, .int x2]) (va_Qi post (mB D cs h sz) (fA h sz)) 0 0 (fA h sz) := by
  refine mx_met (fun sz => va_Qi post (mB D cs h sz) (fA h sz)) (by decide) (by simp [lg_sl, mx_rf_cat, cat_i, cat_l]) ?_
  intro p e s m args below meth c C hR ls hl
  have hl : lv_has ls 3 [(0, va_rf (some v0)), (1, .int x1), (2, .int x2)] := hl
  obtain ⟨hx, hb, hr, hml, hown, hW, hlocks, hnm, hK, hZ⟩ := id C
  have hown : s.vm.findClass "NetJoinsModel" = some m.cls := hown
  have hA : ∀ q, s.heap.size ≤ q → fA h s.heap.size q := fun _ h => Or.inr h
  unfold wp_Mod_rank at hw
  refine mx_aload_n (r := some v0) hx hb d_Mod_rank_0 rfl (lv_at hl 0 rfl) ?_
  refine lv_iload_n hx hb d_Mod_rank_1 rfl (lv_at hl 1 rfl) ?_
  refine mx_calli (va_runS (As := [.int x1]) (rest := [va_rf (some v0)]) ⟨hx, hb, hml, hown, hW⟩ (mt_Mod_isName l D cs Z _ hw) (mx_cwS hW ok_Mod_isName kw_1333 rfl rfl ⟨Nat.le_of_ble_eq_true rfl, Nat.le_of_ble_eq_true rfl⟩) (mx_preS hK hZ hA hR) rfl rfl hl.1 rfl (lv_room (Nat.le_of_ble_eq_true rfl)) d_Mod_rank_2 ⟨Nat.le_of_ble_eq_true rfl, Nat.le_of_ble_eq_true rfl⟩) hR hA (fun r1 h2 H locs hw hR => ?_)
  try dsimp only at hw
  refine lv_if_eq (tgt := 24) hx hb d_Mod_rank_5 (by decide) (fun c3 => ?_) (fun c3 => ?_)
  · have hw := hw.1 c3
    exact mn_Mod_rank_24 C post x1 x2 (some v0) _ _ _ _ hw (lv_sub hl [0, 1, 2] rfl) hR
  · have hw := hw.2 c3
    refine lv_iload_n hx hb d_Mod_rank_8 rfl (lv_at hl 2 rfl) ?_
    refine lv_bipush (v := (-9)) hx hb d_Mod_rank_9 (by decide) ?_
    refine lv_icmp_lt (tgt := 24) hx hb d_Mod_rank_11 (by decide) (fun c4 => ?_) (fun c4 => ?_)
    · have hw := hw.1 c4
      exact mn_Mod_rank_24 C post x1 x2 (some v0) _ _ _ _ hw (lv_sub hl [0, 1, 2] rfl) hR
    · have hw := hw.2 c4
      refine lv_iload_n hx hb d_Mod_rank_14 rfl (lv_at hl 2 rfl) ?_
      refine lv_bipush (v := 9) hx hb d_Mod_rank_15 (by decide) ?_
      refine lv_icmp_gt (tgt := 24) hx hb d_Mod_rank_17 (by decide) (fun c5 => ?_) (fun c5 => ?_)
      · have hw := hw.1 c5
        exact mn_Mod_rank_24 C post x1 x2 (some v0) _ _ _ _ hw (lv_sub hl [0, 1, 2] rfl) hR
      · have hw := hw.2 c5
        refine lv_iconst (v := 0) hx hb d_Mod_rank_20 (by decide) ?_
        refine lv_goto (tgt := 25) hx hb d_Mod_rank_21 (by decide) ?_
        exact mn_Mod_rank_25 C post x1 x2 (0 : Int32) (some v0) _ _ _ _ hw (lv_sub hl [0, 1, 2] rfl) hR
set_option maxHeartbeats 4000000 in
set_option maxRecDepth 100000 in
theorem mn_Mod_hasName_83 {D : va_G} {cs : CS} {Z : Nat → Nat} {h0 : HS} {p : Program} {l : Launch} {e : Env} {s : State} {m : MethodId} {args : Array Value} {below : List Frame} {meth : Method} {c : Code} {v0 : Nat} (C : mC D cs Z h0 y_Mod_hasName c_Mod_hasName 5 (some .boolean) p s m args meth c) (post : Int32 → HS → Prop) (K2 : Int32 × Int32 × Int32 × HS → Prop) (hK2 : ∀ (x1 : Int32) (x2 : Int32) (x3 : Int32) (h : HS) (H : Heap) (locs : List Loc) (ls : Array Slot), K2 (x1, x2, x3, h) → lv_has ls 5 [(0, va_rf (some v0)), (1, .int x1), (2, .int x2), (3, .int x3)] → mR D cs (fA h0 s.heap.size) h s.heap H locs → W p l e ({ frames := 3, cells := 0, slots := 0, locals := 122 } : Room) s m args below meth c H locs 0 0 (MQ below (va_Qi post (mB D cs h0 s.heap.size) (fA h0 s.heap.size)) args s 0 0 (fA h0 s.heap.size)) (F0 m 2 ls [])) : ∀ (x1 : Int32) (x2 : Int32) (x3 : Int32) (h : HS) (H : Heap) (locs : List Loc) (ls : Array Slot), wj_Mod_hasName_83 Z post K2 v0 x1 x2 x3 h → lv_has ls 5 [(0, va_rf (some v0)), (1, .int x1), (2, .int x2), (3, .int x3)] → mR D cs (fA h0 s.heap.size) h s.heap H locs → W p l e ({ frames := 3, cells := 0, slots := 0, locals := 122 } : Room) s m args below meth c H locs 0 0 (MQ below (va_Qi post (mB D cs h0 s.heap.size) (fA h0 s.heap.size)) args s 0 0 (fA h0 s.heap.size)) (F0 m 83 ls []) := by
  obtain ⟨hx, hb, hr, hml, hown, hW, hlocks, hnm, hK, hZ⟩ := id C
  have hown : s.vm.findClass "NetJoinsModel" = some m.cls := hown
  have hA : ∀ q, s.heap.size ≤ q → fA h0 s.heap.size q := fun _ h => Or.inr h
  intro x1 x2 x3 h H locs ls hw hl hR
  unfold wj_Mod_hasName_83 at hw
  obtain ⟨y1, ey1⟩ : ∃ y : Int32, y = x3 + (1 : Int32) := ⟨_, rfl⟩
  have hw := hw y1 ey1
  refine lv_iinc (v := y1) (lv' := [(3, .int y1), (0, va_rf (some v0)), (1, .int x1), (2, .int x2)]) hx hb d_Mod_hasName_83 hl (k := 3) rfl (by rw [ey1]; rfl) (by decide) rfl (fun ls hl => ?_)
  refine lv_goto (tgt := 2) hx hb d_Mod_hasName_86 (by decide) ?_
  exact hK2 x1 x2 y1 _ _ _ _ hw (lv_sub hl [1, 2, 3, 0] rfl) hR
set_option maxHeartbeats 4000000 in
set_option maxRecDepth 100000 in
theorem mn_Mod_hasName_77 {D : va_G} {cs : CS} {Z : Nat → Nat} {h0 : HS} {p : Program} {l : Launch} {e : Env} {s : State} {m : MethodId} {args : Array Value} {below : List Frame} {meth : Method} {c : Code} {v0 : Nat} (C : mC D cs Z h0 y_Mod_hasName c_Mod_hasName 5 (some .boolean) p s m args meth c) (post : Int32 → HS → Prop) (K2 : Int32 × Int32 × Int32 × HS → Prop) (K26 : Int32 × Int32 × Int32 × Int32 × HS → Prop) (hK2 : ∀ (x1 : Int32) (x2 : Int32) (x3 : Int32) (h : HS) (H : Heap) (locs : List Loc) (ls : Array Slot), K2 (x1, x2, x3, h) → lv_has ls 5 [(0, va_rf (some v0)), (1, .int x1), (2, .int x2), (3, .int x3)] → mR D cs (fA h0 s.heap.size) h s.heap H locs → W p l e ({ frames := 3, cells := 0, slots := 0, locals := 122 } : Room) s m args below meth c H locs 0 0 (MQ below (va_Qi post (mB D cs h0 s.heap.size) (fA h0 s.heap.size)) args s 0 0 (fA h0 s.heap.size)) (F0 m 2 ls [])) (hK26 : ∀ (x1 : Int32) (x2 : Int32) (x3 : Int32) (x4 : Int32) (h : HS) (H : Heap) (locs : List Loc) (ls : Array Slot), K26 (x1, x2, x3, x4, h) → lv_has ls 5 [(0, va_rf (some v0)), (1, .int x1), (2, .int x2), (3, .int x3), (4, .int x4)] → mR D cs (fA h0 s.heap.size) h s.heap H locs → W p l e ({ frames := 3, cells := 0, slots := 0, locals := 122 } : Room) s m args below meth c H locs 0 0 (MQ below (va_Qi post (mB D cs h0 s.heap.size) (fA h0 s.heap.size)) args s 0 0 (fA h0 s.heap.size)) (F0 m 26 ls [])) : ∀ (x1 : Int32) (x2 : Int32) (x3 : Int32) (x4 : Int32) (h : HS) (H : Heap) (locs : List Loc) (ls : Array Slot), wj_Mod_hasName_77 Z post K2 K26 v0 x1 x2 x3 x4 h → lv_has ls 5 [(0, va_rf (some v0)), (1, .int x1), (2, .int x2), (3, .int x3), (4, .int x4)] → mR D cs (fA h0 s.heap.size) h s.heap H locs → W p l e ({ frames := 3, cells := 0, slots := 0, locals := 122 } : Room) s m args below meth c H locs 0 0 (MQ below (va_Qi post (mB D cs h0 s.heap.size) (fA h0 s.heap.size)) args s 0 0 (fA h0 s.heap.size)) (F0 m 77 ls []) := by
  obtain ⟨hx, hb, hr, hml, hown, hW, hlocks, hnm, hK, hZ⟩ := id C
  have hown : s.vm.findClass "NetJoinsModel" = some m.cls := hown
  have hA : ∀ q, s.heap.size ≤ q → fA h0 s.heap.size q := fun _ h => Or.inr h
  intro x1 x2 x3 x4 h H locs ls hw hl hR
  unfold wj_Mod_hasName_77 at hw
  obtain ⟨y1, ey1⟩ : ∃ y : Int32, y = x4 + (1 : Int32) := ⟨_, rfl⟩
  have hw := hw y1 ey1
  refine lv_iinc (v := y1) (lv' := [(4, .int y1), (0, va_rf (some v0)), (1, .int x1), (2, .int x2), (3, .int x3)]) hx hb d_Mod_hasName_77 hl (k := 4) rfl (by rw [ey1]; rfl) (by decide) rfl (fun ls hl => ?_)
  refine lv_goto (tgt := 26) hx hb d_Mod_hasName_80 (by decide) ?_
  exact hK26 x1 x2 x3 y1 _ _ _ _ hw (lv_sub hl [1, 2, 3, 4, 0] rfl) hR
set_option maxHeartbeats 4000000 in
set_option maxRecDepth 100000 in
theorem mn_Mod_hasName_26 {D : va_G} {cs : CS} {Z : Nat → Nat} {h0 : HS} {p : Program} {l : Launch} {e : Env} {s : State} {m : MethodId} {args : Array Value} {below : List Frame} {meth : Method} {c : Code} {v0 : Nat} (C : mC D cs Z h0 y_Mod_hasName c_Mod_hasName 5 (some .boolean) p s m args meth c) (post : Int32 → HS → Prop) (K2 : Int32 × Int32 × Int32 × HS → Prop) (hK2 : ∀ (x1 : Int32) (x2 : Int32) (x3 : Int32) (h : HS) (H : Heap) (locs : List Loc) (ls : Array Slot), K2 (x1, x2, x3, h) → lv_has ls 5 [(0, va_rf (some v0)), (1, .int x1), (2, .int x2), (3, .int x3)] → mR D cs (fA h0 s.heap.size) h s.heap H locs → W p l e ({ frames := 3, cells := 0, slots := 0, locals := 122 } : Room) s m args below meth c H locs 0 0 (MQ below (va_Qi post (mB D cs h0 s.heap.size) (fA h0 s.heap.size)) args s 0 0 (fA h0 s.heap.size)) (F0 m 2 ls [])) : ∀ (n : Nat) (x1 : Int32) (x2 : Int32) (x3 : Int32) (x4 : Int32) (h : HS) (H : Heap) (locs : List Loc) (ls : Array Slot), lpF (wb_Mod_hasName_26 Z post K2 v0) n (x1, x2, x3, x4, h) → lv_has ls 5 [(0, va_rf (some v0)), (1, .int x1), (2, .int x2), (3, .int x3), (4, .int x4)] → mR D cs (fA h0 s.heap.size) h s.heap H locs → W p l e ({ frames := 3, cells := 0, slots := 0, locals := 122 } : Room) s m args below meth c H locs 0 0 (MQ below (va_Qi post (mB D cs h0 s.heap.size) (fA h0 s.heap.size)) args s 0 0 (fA h0 s.heap.size)) (F0 m 26 ls []) := by
  obtain ⟨hx, hb, hr, hml, hown, hW, hlocks, hnm, hK, hZ⟩ := id C
  have hown : s.vm.findClass "NetJoinsModel" = some m.cls := hown
  have hA : ∀ q, s.heap.size ≤ q → fA h0 s.heap.size q := fun _ h => Or.inr h
  intro n
  induction n with
  | zero => intro x1 x2 x3 x4 h H locs ls hw; exact hw.elim
  | succ n ih =>
    intro x1 x2 x3 x4 h H locs ls hw hl hR
    have hw : wb_Mod_hasName_26 Z post K2 v0 (lpF (wb_Mod_hasName_26 Z post K2 v0) n) (x1, x2, x3, x4, h) := hw
    unfold wb_Mod_hasName_26 at hw
    dsimp only at hw
    refine lv_iload hx hb d_Mod_hasName_26 (lv_at hl 4 rfl) ?_
    refine mx_aload_n (r := some v0) hx hb d_Mod_hasName_28 rfl (lv_at hl 0 rfl) ?_
    obtain ⟨t1, hw⟩ := hw
    refine mx_get (ci := 8) (C := "NetJoinsModel") (T := F_Mod) (N := 33) hx hb hW hown hK.1 hR (a := v0) rfl t1 rfl i_Mod 1 0 (by decide) rfl kw_1136 (fun _ h9 => h9) d_Mod_hasName_29 ?_
    refine lv_icmp_ge (tgt := 83) hx hb d_Mod_hasName_32 (by decide) (fun c2 => ?_) (fun c2 => ?_)
    · have hw := hw.1 c2
      exact mn_Mod_hasName_83 C post K2 hK2 x1 x2 x3 _ _ _ _ hw (lv_sub hl [0, 1, 2, 3] rfl) hR
    · have hw := hw.2 c2
      refine mx_aload_n (r := some v0) hx hb d_Mod_hasName_35 rfl (lv_at hl 0 rfl) ?_
      obtain ⟨t3, hw⟩ := hw
      refine mx_get (ci := 8) (C := "NetJoinsModel") (T := F_Mod) (N := 33) hx hb hW hown hK.1 hR (a := v0) rfl t3 rfl i_Mod 3 2 (by decide) rfl kw_1138 (fun _ h9 => h9) d_Mod_hasName_36 ?_
      refine lv_iload hx hb d_Mod_hasName_39 (lv_at hl 4 rfl) ?_
      obtain ⟨a4, ea4, t5, t5i, hw⟩ := hw
      refine mx_iald hx hb hK.1 hR (a := a4) ea4 t5 t5i d_Mod_hasName_41 ?_
      refine mx_aload_n (r := some v0) hx hb d_Mod_hasName_42 rfl (lv_at hl 0 rfl) ?_
      obtain ⟨t6, hw⟩ := hw
      refine mx_get (ci := 8) (C := "NetJoinsModel") (T := F_Mod) (N := 33) hx hb hW hown hK.1 hR (a := v0) rfl t6 rfl i_Mod 12 2 (by decide) rfl kw_1147 (fun _ h9 => h9) d_Mod_hasName_43 ?_
      refine lv_iload_n hx hb d_Mod_hasName_46 rfl (lv_at hl 3 rfl) ?_
      obtain ⟨a7, ea7, t8, t8i, hw⟩ := hw
      refine mx_iald hx hb hK.1 hR (a := a7) ea7 t8 t8i d_Mod_hasName_47 ?_
      refine lv_icmp_ne (tgt := 77) hx hb d_Mod_hasName_48 (by decide) (fun c9 => ?_) (fun c9 => ?_)
      · have hw := hw.1 c9
        exact mn_Mod_hasName_77 C post K2 (lpF (wb_Mod_hasName_26 Z post K2 v0) n) hK2 ih x1 x2 x3 x4 _ _ _ _ hw (lv_sub hl [0, 1, 2, 3, 4] rfl) hR
      · have hw := hw.2 c9
        refine mx_aload_n (r := some v0) hx hb d_Mod_hasName_51 rfl (lv_at hl 0 rfl) ?_
        obtain ⟨t10, hw⟩ := hw
        refine mx_get (ci := 8) (C := "NetJoinsModel") (T := F_Mod) (N := 33) hx hb hW hown hK.1 hR (a := v0) rfl t10 rfl i_Mod 26 2 (by decide) rfl kw_1161 (fun _ h9 => h9) d_Mod_hasName_52 ?_
        refine mx_aload_n (r := some v0) hx hb d_Mod_hasName_55 rfl (lv_at hl 0 rfl) ?_
        refine lv_sipush (v := 1600) hx hb d_Mod_hasName_56 (by decide) ?_
        refine lv_bipush (v := 16) hx hb d_Mod_hasName_59 (by decide) ?_
        refine lv_iload_n hx hb d_Mod_hasName_61 rfl (lv_at hl 3 rfl) ?_
        refine lv_imul hx hb d_Mod_hasName_62 ?_
        refine lv_iadd hx hb d_Mod_hasName_63 ?_
        refine lv_iload hx hb d_Mod_hasName_64 (lv_at hl 4 rfl) ?_
        refine lv_iadd hx hb d_Mod_hasName_66 ?_
        obtain ⟨t13, hw⟩ := hw
        refine mx_calli (va_runV (b := v0) (As := [.int (((1600 : Int32) + ((16 : Int32) * x3)) + x4)]) (rest := [va_rf (gR h 826 v0)]) ⟨hx, hb, hml, hown, hW⟩ (mt_Mod_leader l D cs Z _ hw) (mx_cwV hW ok_Mod_leader kw_1280 rfl rfl ⟨Nat.le_of_ble_eq_true rfl, Nat.le_of_ble_eq_true rfl⟩) (mx_preV hK hZ hA hR (ci := 8) rfl t13) rfl rfl hl.1 rfl (lv_room (by simp [mx_rf_cat, cat_i, cat_l])) d_Mod_hasName_67 ⟨Nat.le_of_ble_eq_true rfl, Nat.le_of_ble_eq_true rfl⟩) hR hA (fun r11 h12 H locs hw hR => ?_)
        try dsimp only at hw
        obtain ⟨a14, ea14, t15, t15i, hw⟩ := hw
        refine mx_iald hx hb hK.1 hR (a := a14) ea14 t15 t15i d_Mod_hasName_70 ?_
        refine lv_iload_n hx hb d_Mod_hasName_71 rfl (lv_at hl 1 rfl) ?_
        refine lv_icmp_ne (tgt := 77) hx hb d_Mod_hasName_72 (by decide) (fun c16 => ?_) (fun c16 => ?_)
        · have hw := hw.1 c16
          exact mn_Mod_hasName_77 C post K2 (lpF (wb_Mod_hasName_26 Z post K2 v0) n) hK2 ih x1 x2 x3 x4 _ _ _ _ hw (lv_sub hl [0, 1, 2, 3, 4] rfl) hR
        · have hw := hw.2 c16
          refine lv_iconst (v := 1) hx hb d_Mod_hasName_75 (by decide) ?_
          exact mx_zret hx hb hr hlocks hR (Or.inr rfl) hw d_Mod_hasName_76
set_option maxHeartbeats 4000000 in
set_option maxRecDepth 100000 in
theorem mn_Mod_hasName_2 {D : va_G} {cs : CS} {Z : Nat → Nat} {h0 : HS} {p : Program} {l : Launch} {e : Env} {s : State} {m : MethodId} {args : Array Value} {below : List Frame} {meth : Method} {c : Code} {v0 : Nat} (C : mC D cs Z h0 y_Mod_hasName c_Mod_hasName 5 (some .boolean) p s m args meth c) (post : Int32 → HS → Prop) : ∀ (n : Nat) (x1 : Int32) (x2 : Int32) (x3 : Int32) (h : HS) (H : Heap) (locs : List Loc) (ls : Array Slot), lpF (wb_Mod_hasName_2 Z post v0) n (x1, x2, x3, h) → lv_has ls 5 [(0, va_rf (some v0)), (1, .int x1), (2, .int x2), (3, .int x3)] → mR D cs (fA h0 s.heap.size) h s.heap H locs → W p l e ({ frames := 3, cells := 0, slots := 0, locals := 122 } : Room) s m args below meth c H locs 0 0 (MQ below (va_Qi post (mB D cs h0 s.heap.size) (fA h0 s.heap.size)) args s 0 0 (fA h0 s.heap.size)) (F0 m 2 ls []) := by
  obtain ⟨hx, hb, hr, hml, hown, hW, hlocks, hnm, hK, hZ⟩ := id C
  have hown : s.vm.findClass "NetJoinsModel" = some m.cls := hown
  have hA : ∀ q, s.heap.size ≤ q → fA h0 s.heap.size q := fun _ h => Or.inr h
  intro n
  induction n with
  | zero => intro x1 x2 x3 h H locs ls hw; exact hw.elim
  | succ n ih =>
    intro x1 x2 x3 h H locs ls hw hl hR
    have hw : wb_Mod_hasName_2 Z post v0 (lpF (wb_Mod_hasName_2 Z post v0) n) (x1, x2, x3, h) := hw
    unfold wb_Mod_hasName_2 at hw
    dsimp only at hw
    refine lv_iload_n hx hb d_Mod_hasName_2 rfl (lv_at hl 3 rfl) ?_
    refine mx_aload_n (r := some v0) hx hb d_Mod_hasName_3 rfl (lv_at hl 0 rfl) ?_
    obtain ⟨t1, hw⟩ := hw
    refine mx_get (ci := 8) (C := "NetJoinsModel") (T := F_Mod) (N := 33) hx hb hW hown hK.1 hR (a := v0) rfl t1 rfl i_Mod 11 0 (by decide) rfl kw_1146 (fun _ h9 => h9) d_Mod_hasName_4 ?_
    refine lv_icmp_ge (tgt := 89) hx hb d_Mod_hasName_7 (by decide) (fun c2 => ?_) (fun c2 => ?_)
    · have hw := hw.1 c2
      refine lv_iconst (v := 0) hx hb d_Mod_hasName_89 (by decide) ?_
      exact mx_zret hx hb hr hlocks hR (Or.inl rfl) hw d_Mod_hasName_90
    · have hw := hw.2 c2
      refine mx_aload_n (r := some v0) hx hb d_Mod_hasName_10 rfl (lv_at hl 0 rfl) ?_
      obtain ⟨t3, hw⟩ := hw
      refine mx_get (ci := 8) (C := "NetJoinsModel") (T := F_Mod) (N := 33) hx hb hW hown hK.1 hR (a := v0) rfl t3 rfl i_Mod 13 2 (by decide) rfl kw_1148 (fun _ h9 => h9) d_Mod_hasName_11 ?_
      refine lv_iload_n hx hb d_Mod_hasName_14 rfl (lv_at hl 3 rfl) ?_
      obtain ⟨a4, ea4, t5, t5i, hw⟩ := hw
      refine mx_iald hx hb hK.1 hR (a := a4) ea4 t5 t5i d_Mod_hasName_15 ?_
      refine lv_iload_n hx hb d_Mod_hasName_16 rfl (lv_at hl 2 rfl) ?_
      refine lv_icmp_eq (tgt := 23) hx hb d_Mod_hasName_17 (by decide) (fun c6 => ?_) (fun c6 => ?_)
      · have hw := hw.1 c6
        refine lv_iconst (v := 0) hx hb d_Mod_hasName_23 (by decide) ?_
        refine lv_istore (i := 4) (lv' := [(4, .int (0 : Int32)), (0, va_rf (some v0)), (1, .int x1), (2, .int x2), (3, .int x3)]) hx hb d_Mod_hasName_24 hl (by decide) rfl (fun ls hl => ?_)
        obtain ⟨n9, hw⟩ := hw
        exact mn_Mod_hasName_26 C post (lpF (wb_Mod_hasName_2 Z post v0) n) ih n9 x1 x2 x3 (0 : Int32) _ _ _ _ hw (lv_sub hl [1, 2, 3, 4, 0] rfl) hR
      · have hw := hw.2 c6
        refine lv_goto (tgt := 83) hx hb d_Mod_hasName_20 (by decide) ?_
        exact mn_Mod_hasName_83 C post (lpF (wb_Mod_hasName_2 Z post v0) n) ih x1 x2 x3 _ _ _ _ hw (lv_sub hl [0, 1, 2, 3] rfl) hR
set_option maxHeartbeats 4000000 in
set_option maxRecDepth 100000 in
theorem mt_Mod_hasName (l : Launch) (D : va_G) (cs : CS) (Z : Nat → Nat) (sz : Nat) {post : Int32 → HS → Prop} {h : HS} {v0 : Nat} {x1 : Int32} {x2 : Int32} (hw : wp_Mod_hasName Z post h v0 x1 x2) : Met l y_Mod_hasName (Cond.code y_Mod_hasName c_Mod_hasName 5 (some .boolean) :: WA) ({ frames := 3, cells := 0, slots := 0, locals := 122 } : Room) (mPc D cs Z h sz [va_rf (some v0), .int x1, .int x2]) (va_Qi post (mB D cs h sz) (fA h sz)) 0 0 (fA h sz) := by
  refine mx_met (fun sz => va_Qi post (mB D cs h sz) (fA h sz)) (by decide) (by simp [lg_sl, mx_rf_cat, cat_i, cat_l]) ?_
  intro p e s m args below meth c C hR ls hl
  have hl : lv_has ls 5 [(0, va_rf (some v0)), (1, .int x1), (2, .int x2)] := hl
  obtain ⟨hx, hb, hr, hml, hown, hW, hlocks, hnm, hK, hZ⟩ := id C
  have hown : s.vm.findClass "NetJoinsModel" = some m.cls := hown
  have hA : ∀ q, s.heap.size ≤ q → fA h s.heap.size q := fun _ h => Or.inr h
  unfold wp_Mod_hasName at hw
  refine lv_iconst (v := 0) hx hb d_Mod_hasName_0 (by decide) ?_
  refine lv_istore_n (i := 3) (lv' := [(3, .int (0 : Int32)), (0, va_rf (some v0)), (1, .int x1), (2, .int x2)]) hx hb d_Mod_hasName_1 rfl hl (by decide) rfl (fun ls hl => ?_)
  obtain ⟨n9, hw⟩ := hw
  exact mn_Mod_hasName_2 C post n9 x1 x2 (0 : Int32) _ _ _ _ hw (lv_sub hl [1, 2, 3, 0] rfl) hR
set_option maxHeartbeats 4000000 in
set_option maxRecDepth 100000 in
theorem mn_Mod_nameOf_71 {D : va_G} {cs : CS} {Z : Nat → Nat} {h0 : HS} {p : Program} {l : Launch} {e : Env} {s : State} {m : MethodId} {args : Array Value} {below : List Frame} {meth : Method} {c : Code} {v0 : Nat} (C : mC D cs Z h0 y_Mod_nameOf c_Mod_nameOf 4 (some .int) p s m args meth c) (post : Int32 → HS → Prop) : ∀ (x2 : Int32) (x3 : Int32) (h : HS) (H : Heap) (locs : List Loc) (ls : Array Slot), wj_Mod_nameOf_71 Z post v0 x2 x3 h → lv_has ls 4 [(2, .int x2), (3, .int x3)] → mR D cs (fA h0 s.heap.size) h s.heap H locs → W p l e ({ frames := 4, cells := 0, slots := 0, locals := 146 } : Room) s m args below meth c H locs 0 0 (MQ below (va_Qi post (mB D cs h0 s.heap.size) (fA h0 s.heap.size)) args s 0 0 (fA h0 s.heap.size)) (F0 m 71 ls []) := by
  obtain ⟨hx, hb, hr, hml, hown, hW, hlocks, hnm, hK, hZ⟩ := id C
  have hown : s.vm.findClass "NetJoinsModel" = some m.cls := hown
  have hA : ∀ q, s.heap.size ≤ q → fA h0 s.heap.size q := fun _ h => Or.inr h
  intro x2 x3 h H locs ls hw hl hR
  unfold wj_Mod_nameOf_71 at hw
  refine lv_iload_n hx hb d_Mod_nameOf_71 rfl (lv_at hl 0 rfl) ?_
  refine lv_iconst (v := (-1)) hx hb d_Mod_nameOf_72 (by decide) ?_
  refine lv_icmp_ne (tgt := 85) hx hb d_Mod_nameOf_73 (by decide) (fun c1 => ?_) (fun c1 => ?_)
  · have hw := hw.1 c1
    refine lv_iload_n hx hb d_Mod_nameOf_85 rfl (lv_at hl 0 rfl) ?_
    exact mx_iret hx hb hr hlocks hR hw d_Mod_nameOf_86
  · have hw := hw.2 c1
    refine lv_iconst (v := (-1)) hx hb d_Mod_nameOf_76 (by decide) ?_
    refine lv_iload_n hx hb d_Mod_nameOf_77 rfl (lv_at hl 1 rfl) ?_
    refine lv_bipush (v := 16) hx hb d_Mod_nameOf_78 (by decide) ?_
    obtain ⟨t2, hw⟩ := hw
    refine lv_idiv hx hb d_Mod_nameOf_80 t2 ?_
    refine lv_isub hx hb d_Mod_nameOf_81 ?_
    refine lv_goto (tgt := 86) hx hb d_Mod_nameOf_82 (by decide) ?_
    exact mx_iret hx hb hr hlocks hR hw d_Mod_nameOf_86
set_option maxHeartbeats 4000000 in
set_option maxRecDepth 100000 in
theorem mn_Mod_nameOf_50 {D : va_G} {cs : CS} {Z : Nat → Nat} {h0 : HS} {p : Program} {l : Launch} {e : Env} {s : State} {m : MethodId} {args : Array Value} {below : List Frame} {meth : Method} {c : Code} {v0 : Nat} (C : mC D cs Z h0 y_Mod_nameOf c_Mod_nameOf 4 (some .int) p s m args meth c) (post : Int32 → HS → Prop) : ∀ (n : Nat) (x1 : Int32) (x2 : Int32) (x3 : Int32) (h : HS) (H : Heap) (locs : List Loc) (ls : Array Slot), lpF (wb_Mod_nameOf_50 Z post v0) n (x1, x2, x3, h) → lv_has ls 4 [(0, va_rf (some v0)), (1, .int x1), (2, .int x2), (3, .int x3)] → mR D cs (fA h0 s.heap.size) h s.heap H locs → W p l e ({ frames := 4, cells := 0, slots := 0, locals := 146 } : Room) s m args below meth c H locs 0 0 (MQ below (va_Qi post (mB D cs h0 s.heap.size) (fA h0 s.heap.size)) args s 0 0 (fA h0 s.heap.size)) (F0 m 50 ls []) := by
  obtain ⟨hx, hb, hr, hml, hown, hW, hlocks, hnm, hK, hZ⟩ := id C
  have hown : s.vm.findClass "NetJoinsModel" = some m.cls := hown
  have hA : ∀ q, s.heap.size ≤ q → fA h0 s.heap.size q := fun _ h => Or.inr h
  intro n
  induction n with
  | zero => intro x1 x2 x3 h H locs ls hw; exact hw.elim
  | succ n ih =>
    intro x1 x2 x3 h H locs ls hw hl hR
    have hw : wb_Mod_nameOf_50 Z post v0 (lpF (wb_Mod_nameOf_50 Z post v0) n) (x1, x2, x3, h) := hw
    unfold wb_Mod_nameOf_50 at hw
    dsimp only at hw
    refine lv_iload_n hx hb d_Mod_nameOf_50 rfl (lv_at hl 2 rfl) ?_
    refine lv_iconst (v := (-1)) hx hb d_Mod_nameOf_51 (by decide) ?_
    refine lv_icmp_ne (tgt := 71) hx hb d_Mod_nameOf_52 (by decide) (fun c1 => ?_) (fun c1 => ?_)
    · have hw := hw.1 c1
      exact mn_Mod_nameOf_71 C post x2 x3 _ _ _ _ hw (lv_sub hl [2, 3] rfl) hR
    · have hw := hw.2 c1
      refine mx_aload_n (r := some v0) hx hb d_Mod_nameOf_55 rfl (lv_at hl 0 rfl) ?_
      obtain ⟨t2, hw⟩ := hw
      refine mx_get (ci := 8) (C := "NetJoinsModel") (T := F_Mod) (N := 33) hx hb hW hown hK.1 hR (a := v0) rfl t2 rfl i_Mod 27 2 (by decide) rfl kw_1162 (fun _ h9 => h9) d_Mod_nameOf_56 ?_
      refine lv_iload_n hx hb d_Mod_nameOf_59 rfl (lv_at hl 3 rfl) ?_
      obtain ⟨a3, ea3, t4, t4i, hw⟩ := hw
      refine mx_iald hx hb hK.1 hR (a := a3) ea3 t4 t4i d_Mod_nameOf_60 ?_
      refine lv_iload_n hx hb d_Mod_nameOf_61 rfl (lv_at hl 1 rfl) ?_
      refine lv_icmp_eq (tgt := 71) hx hb d_Mod_nameOf_62 (by decide) (fun c5 => ?_) (fun c5 => ?_)
      · have hw := hw.1 c5
        exact mn_Mod_nameOf_71 C post x2 x3 _ _ _ _ hw (lv_sub hl [2, 3] rfl) hR
      · have hw := hw.2 c5
        obtain ⟨y6, ey6⟩ : ∃ y : Int32, y = x3 + (1 : Int32) := ⟨_, rfl⟩
        have hw := hw y6 ey6
        refine lv_iinc (v := y6) (lv' := [(3, .int y6), (0, va_rf (some v0)), (1, .int x1), (2, .int x2)]) hx hb d_Mod_nameOf_65 hl (k := 3) rfl (by rw [ey6]; rfl) (by decide) rfl (fun ls hl => ?_)
        refine lv_goto (tgt := 50) hx hb d_Mod_nameOf_68 (by decide) ?_
        exact ih x1 x2 y6 _ _ _ _ hw (lv_sub hl [1, 2, 3, 0] rfl) hR
set_option maxHeartbeats 4000000 in
set_option maxRecDepth 100000 in
theorem mn_Mod_nameOf_42 {D : va_G} {cs : CS} {Z : Nat → Nat} {h0 : HS} {p : Program} {l : Launch} {e : Env} {s : State} {m : MethodId} {args : Array Value} {below : List Frame} {meth : Method} {c : Code} {v0 : Nat} (C : mC D cs Z h0 y_Mod_nameOf c_Mod_nameOf 4 (some .int) p s m args meth c) (post : Int32 → HS → Prop) (K4 : Int32 × Int32 × Int32 × HS → Prop) (hK4 : ∀ (x1 : Int32) (x2 : Int32) (x3 : Int32) (h : HS) (H : Heap) (locs : List Loc) (ls : Array Slot), K4 (x1, x2, x3, h) → lv_has ls 4 [(0, va_rf (some v0)), (1, .int x1), (2, .int x2), (3, .int x3)] → mR D cs (fA h0 s.heap.size) h s.heap H locs → W p l e ({ frames := 4, cells := 0, slots := 0, locals := 146 } : Room) s m args below meth c H locs 0 0 (MQ below (va_Qi post (mB D cs h0 s.heap.size) (fA h0 s.heap.size)) args s 0 0 (fA h0 s.heap.size)) (F0 m 4 ls [])) : ∀ (x1 : Int32) (x2 : Int32) (x3 : Int32) (h : HS) (H : Heap) (locs : List Loc) (ls : Array Slot), wj_Mod_nameOf_42 Z post K4 v0 x1 x2 x3 h → lv_has ls 4 [(0, va_rf (some v0)), (1, .int x1), (2, .int x2), (3, .int x3)] → mR D cs (fA h0 s.heap.size) h s.heap H locs → W p l e ({ frames := 4, cells := 0, slots := 0, locals := 146 } : Room) s m args below meth c H locs 0 0 (MQ below (va_Qi post (mB D cs h0 s.heap.size) (fA h0 s.heap.size)) args s 0 0 (fA h0 s.heap.size)) (F0 m 42 ls []) := by
  obtain ⟨hx, hb, hr, hml, hown, hW, hlocks, hnm, hK, hZ⟩ := id C
  have hown : s.vm.findClass "NetJoinsModel" = some m.cls := hown
  have hA : ∀ q, s.heap.size ≤ q → fA h0 s.heap.size q := fun _ h => Or.inr h
  intro x1 x2 x3 h H locs ls hw hl hR
  unfold wj_Mod_nameOf_42 at hw
  obtain ⟨y1, ey1⟩ : ∃ y : Int32, y = x3 + (1 : Int32) := ⟨_, rfl⟩
  have hw := hw y1 ey1
  refine lv_iinc (v := y1) (lv' := [(3, .int y1), (0, va_rf (some v0)), (1, .int x1), (2, .int x2)]) hx hb d_Mod_nameOf_42 hl (k := 3) rfl (by rw [ey1]; rfl) (by decide) rfl (fun ls hl => ?_)
  refine lv_goto (tgt := 4) hx hb d_Mod_nameOf_45 (by decide) ?_
  exact hK4 x1 x2 y1 _ _ _ _ hw (lv_sub hl [1, 2, 3, 0] rfl) hR
set_option maxHeartbeats 4000000 in
set_option maxRecDepth 100000 in
theorem mn_Mod_nameOf_31 {D : va_G} {cs : CS} {Z : Nat → Nat} {h0 : HS} {p : Program} {l : Launch} {e : Env} {s : State} {m : MethodId} {args : Array Value} {below : List Frame} {meth : Method} {c : Code} {v0 : Nat} (C : mC D cs Z h0 y_Mod_nameOf c_Mod_nameOf 4 (some .int) p s m args meth c) (post : Int32 → HS → Prop) (K4 : Int32 × Int32 × Int32 × HS → Prop) (hK4 : ∀ (x1 : Int32) (x2 : Int32) (x3 : Int32) (h : HS) (H : Heap) (locs : List Loc) (ls : Array Slot), K4 (x1, x2, x3, h) → lv_has ls 4 [(0, va_rf (some v0)), (1, .int x1), (2, .int x2), (3, .int x3)] → mR D cs (fA h0 s.heap.size) h s.heap H locs → W p l e ({ frames := 4, cells := 0, slots := 0, locals := 146 } : Room) s m args below meth c H locs 0 0 (MQ below (va_Qi post (mB D cs h0 s.heap.size) (fA h0 s.heap.size)) args s 0 0 (fA h0 s.heap.size)) (F0 m 4 ls [])) : ∀ (x1 : Int32) (x2 : Int32) (x3 : Int32) (h : HS) (H : Heap) (locs : List Loc) (ls : Array Slot), wj_Mod_nameOf_31 Z post K4 v0 x1 x2 x3 h → lv_has ls 4 [(0, va_rf (some v0)), (1, .int x1), (2, .int x2), (3, .int x3)] → mR D cs (fA h0 s.heap.size) h s.heap H locs → W p l e ({ frames := 4, cells := 0, slots := 0, locals := 146 } : Room) s m args below meth c H locs 0 0 (MQ below (va_Qi post (mB D cs h0 s.heap.size) (fA h0 s.heap.size)) args s 0 0 (fA h0 s.heap.size)) (F0 m 31 ls []) := by
  obtain ⟨hx, hb, hr, hml, hown, hW, hlocks, hnm, hK, hZ⟩ := id C
  have hown : s.vm.findClass "NetJoinsModel" = some m.cls := hown
  have hA : ∀ q, s.heap.size ≤ q → fA h0 s.heap.size q := fun _ h => Or.inr h
  intro x1 x2 x3 h H locs ls hw hl hR
  unfold wj_Mod_nameOf_31 at hw
  refine mx_aload_n (r := some v0) hx hb d_Mod_nameOf_31 rfl (lv_at hl 0 rfl) ?_
  refine lv_iload_n hx hb d_Mod_nameOf_32 rfl (lv_at hl 1 rfl) ?_
  refine lv_iload_n hx hb d_Mod_nameOf_33 rfl (lv_at hl 3 rfl) ?_
  obtain ⟨t3, hw⟩ := hw
  refine mx_calli (va_runV (b := v0) (As := [.int x1, .int x3]) (rest := []) ⟨hx, hb, hml, hown, hW⟩ (mt_Mod_hasName l D cs Z _ hw) (mx_cwV hW ok_Mod_hasName kw_1376 rfl rfl ⟨Nat.le_of_ble_eq_true rfl, Nat.le_of_ble_eq_true rfl⟩) (mx_preV hK hZ hA hR (ci := 8) rfl t3) rfl rfl hl.1 rfl (lv_room (Nat.le_of_ble_eq_true rfl)) d_Mod_nameOf_34 ⟨Nat.le_of_ble_eq_true rfl, Nat.le_of_ble_eq_true rfl⟩) hR hA (fun r1 h2 H locs hw hR => ?_)
  try dsimp only at hw
  refine lv_if_eq (tgt := 42) hx hb d_Mod_nameOf_37 (by decide) (fun c4 => ?_) (fun c4 => ?_)
  · have hw := hw.1 c4
    exact mn_Mod_nameOf_42 C post K4 hK4 x1 x2 x3 _ _ _ _ hw (lv_sub hl [0, 1, 2, 3] rfl) hR
  · have hw := hw.2 c4
    refine lv_iload_n hx hb d_Mod_nameOf_40 rfl (lv_at hl 3 rfl) ?_
    refine lv_istore_n (i := 2) (lv' := [(2, .int x3), (0, va_rf (some v0)), (1, .int x1), (3, .int x3)]) hx hb d_Mod_nameOf_41 rfl hl (by decide) rfl (fun ls hl => ?_)
    exact mn_Mod_nameOf_42 C post K4 hK4 x1 x3 x3 _ _ _ _ hw (lv_sub hl [1, 2, 0, 3] rfl) hR
set_option maxHeartbeats 4000000 in
set_option maxRecDepth 100000 in
theorem mn_Mod_nameOf_4 {D : va_G} {cs : CS} {Z : Nat → Nat} {h0 : HS} {p : Program} {l : Launch} {e : Env} {s : State} {m : MethodId} {args : Array Value} {below : List Frame} {meth : Method} {c : Code} {v0 : Nat} (C : mC D cs Z h0 y_Mod_nameOf c_Mod_nameOf 4 (some .int) p s m args meth c) (post : Int32 → HS → Prop) : ∀ (n : Nat) (x1 : Int32) (x2 : Int32) (x3 : Int32) (h : HS) (H : Heap) (locs : List Loc) (ls : Array Slot), lpF (wb_Mod_nameOf_4 Z post v0) n (x1, x2, x3, h) → lv_has ls 4 [(0, va_rf (some v0)), (1, .int x1), (2, .int x2), (3, .int x3)] → mR D cs (fA h0 s.heap.size) h s.heap H locs → W p l e ({ frames := 4, cells := 0, slots := 0, locals := 146 } : Room) s m args below meth c H locs 0 0 (MQ below (va_Qi post (mB D cs h0 s.heap.size) (fA h0 s.heap.size)) args s 0 0 (fA h0 s.heap.size)) (F0 m 4 ls []) := by
  obtain ⟨hx, hb, hr, hml, hown, hW, hlocks, hnm, hK, hZ⟩ := id C
  have hown : s.vm.findClass "NetJoinsModel" = some m.cls := hown
  have hA : ∀ q, s.heap.size ≤ q → fA h0 s.heap.size q := fun _ h => Or.inr h
  intro n
  induction n with
  | zero => intro x1 x2 x3 h H locs ls hw; exact hw.elim
  | succ n ih =>
    intro x1 x2 x3 h H locs ls hw hl hR
    have hw : wb_Mod_nameOf_4 Z post v0 (lpF (wb_Mod_nameOf_4 Z post v0) n) (x1, x2, x3, h) := hw
    unfold wb_Mod_nameOf_4 at hw
    dsimp only at hw
    refine lv_iload_n hx hb d_Mod_nameOf_4 rfl (lv_at hl 3 rfl) ?_
    refine lv_sipush (v := 1000) hx hb d_Mod_nameOf_5 (by decide) ?_
    refine lv_icmp_ge (tgt := 48) hx hb d_Mod_nameOf_8 (by decide) (fun c1 => ?_) (fun c1 => ?_)
    · have hw := hw.1 c1
      refine lv_iconst (v := 0) hx hb d_Mod_nameOf_48 (by decide) ?_
      refine lv_istore_n (i := 3) (lv' := [(3, .int (0 : Int32)), (0, va_rf (some v0)), (1, .int x1), (2, .int x2)]) hx hb d_Mod_nameOf_49 rfl hl (by decide) rfl (fun ls hl => ?_)
      obtain ⟨n9, hw⟩ := hw
      exact mn_Mod_nameOf_50 C post n9 x1 x2 (0 : Int32) _ _ _ _ hw (lv_sub hl [1, 2, 3, 0] rfl) hR
    · have hw := hw.2 c1
      refine lv_iload_n hx hb d_Mod_nameOf_11 rfl (lv_at hl 2 rfl) ?_
      refine lv_iconst (v := (-1)) hx hb d_Mod_nameOf_12 (by decide) ?_
      refine lv_icmp_eq (tgt := 31) hx hb d_Mod_nameOf_13 (by decide) (fun c2 => ?_) (fun c2 => ?_)
      · have hw := hw.1 c2
        exact mn_Mod_nameOf_31 C post (lpF (wb_Mod_nameOf_4 Z post v0) n) ih x1 x2 x3 _ _ _ _ hw (lv_sub hl [0, 1, 2, 3] rfl) hR
      · have hw := hw.2 c2
        refine mx_aload_n (r := some v0) hx hb d_Mod_nameOf_16 rfl (lv_at hl 0 rfl) ?_
        obtain ⟨t3, hw⟩ := hw
        refine mx_get (ci := 8) (C := "NetJoinsModel") (T := F_Mod) (N := 33) hx hb hW hown hK.1 hR (a := v0) rfl t3 rfl i_Mod 24 2 (by decide) rfl kw_1159 (fun _ h9 => h9) d_Mod_nameOf_17 ?_
        refine lv_iload_n hx hb d_Mod_nameOf_20 rfl (lv_at hl 3 rfl) ?_
        obtain ⟨a4, ea4, t5, t5i, hw⟩ := hw
        refine mx_iald hx hb hK.1 hR (a := a4) ea4 t5 t5i d_Mod_nameOf_21 ?_
        refine mx_aload_n (r := some v0) hx hb d_Mod_nameOf_22 rfl (lv_at hl 0 rfl) ?_
        obtain ⟨t6, hw⟩ := hw
        refine mx_get (ci := 8) (C := "NetJoinsModel") (T := F_Mod) (N := 33) hx hb hW hown hK.1 hR (a := v0) rfl t6 rfl i_Mod 24 2 (by decide) rfl kw_1159 (fun _ h9 => h9) d_Mod_nameOf_23 ?_
        refine lv_iload_n hx hb d_Mod_nameOf_26 rfl (lv_at hl 2 rfl) ?_
        obtain ⟨a7, ea7, t8, t8i, hw⟩ := hw
        refine mx_iald hx hb hK.1 hR (a := a7) ea7 t8 t8i d_Mod_nameOf_27 ?_
        refine lv_icmp_le (tgt := 42) hx hb d_Mod_nameOf_28 (by decide) (fun c9 => ?_) (fun c9 => ?_)
        · have hw := hw.1 c9
          exact mn_Mod_nameOf_42 C post (lpF (wb_Mod_nameOf_4 Z post v0) n) ih x1 x2 x3 _ _ _ _ hw (lv_sub hl [0, 1, 2, 3] rfl) hR
        · have hw := hw.2 c9
          exact mn_Mod_nameOf_31 C post (lpF (wb_Mod_nameOf_4 Z post v0) n) ih x1 x2 x3 _ _ _ _ hw (lv_sub hl [0, 1, 2, 3] rfl) hR
set_option maxHeartbeats 4000000 in
set_option maxRecDepth 100000 in
theorem mt_Mod_nameOf (l : Launch) (D : va_G) (cs : CS) (Z : Nat → Nat) (sz : Nat) {post : Int32 → HS → Prop} {h : HS} {v0 : Nat} {x1 : Int32} (hw : wp_Mod_nameOf Z post h v0 x1) : Met l y_Mod_nameOf (Cond.code y_Mod_nameOf c_Mod_nameOf 4 (some .int) :: WA) ({ frames := 4, cells := 0, slots := 0, locals := 146 } : Room) (mPc D cs Z h sz [va_rf (some v0), .int x1]) (va_Qi post (mB D cs h sz) (fA h sz)) 0 0 (fA h sz) := by
  refine mx_met (fun sz => va_Qi post (mB D cs h sz) (fA h sz)) (by decide) (by simp [lg_sl, mx_rf_cat, cat_i, cat_l]) ?_
  intro p e s m args below meth c C hR ls hl
  have hl : lv_has ls 4 [(0, va_rf (some v0)), (1, .int x1)] := hl
  obtain ⟨hx, hb, hr, hml, hown, hW, hlocks, hnm, hK, hZ⟩ := id C
  have hown : s.vm.findClass "NetJoinsModel" = some m.cls := hown
  have hA : ∀ q, s.heap.size ≤ q → fA h s.heap.size q := fun _ h => Or.inr h
  unfold wp_Mod_nameOf at hw
  refine lv_iconst (v := (-1)) hx hb d_Mod_nameOf_0 (by decide) ?_
  refine lv_istore_n (i := 2) (lv' := [(2, .int (-1 : Int32)), (0, va_rf (some v0)), (1, .int x1)]) hx hb d_Mod_nameOf_1 rfl hl (by decide) rfl (fun ls hl => ?_)
  refine lv_iconst (v := 0) hx hb d_Mod_nameOf_2 (by decide) ?_
  refine lv_istore_n (i := 3) (lv' := [(3, .int (0 : Int32)), (2, .int (-1 : Int32)), (0, va_rf (some v0)), (1, .int x1)]) hx hb d_Mod_nameOf_3 rfl hl (by decide) rfl (fun ls hl => ?_)
  obtain ⟨n9, hw⟩ := hw
  exact mn_Mod_nameOf_4 C post n9 x1 (-1 : Int32) (0 : Int32) _ _ _ _ hw (lv_sub hl [2, 3, 1, 0] rfl) hR
set_option maxHeartbeats 4000000 in
set_option maxRecDepth 100000 in
theorem mn_Mod_name_18 {D : va_G} {cs : CS} {Z : Nat → Nat} {h0 : HS} {p : Program} {l : Launch} {e : Env} {s : State} {m : MethodId} {args : Array Value} {below : List Frame} {meth : Method} {c : Code} {v0 : Nat} (C : mC D cs Z h0 y_Mod_name c_Mod_name 2 (some .int) p s m args meth c) (post : Int32 → HS → Prop) : ∀ (x1 : Int32) (s0 : Int32) (s1 : Option Nat) (h : HS) (H : Heap) (locs : List Loc) (ls : Array Slot), wj_Mod_name_18 Z post v0 x1 s0 s1 h → lv_has ls 2 [(0, va_rf (some v0)), (1, .int x1)] → mR D cs (fA h0 s.heap.size) h s.heap H locs → W p l e ({ frames := 5, cells := 0, slots := 0, locals := 169 } : Room) s m args below meth c H locs 0 0 (MQ below (va_Qi post (mB D cs h0 s.heap.size) (fA h0 s.heap.size)) args s 0 0 (fA h0 s.heap.size)) (F0 m 18 ls [.int s0, va_rf s1]) := by
  obtain ⟨hx, hb, hr, hml, hown, hW, hlocks, hnm, hK, hZ⟩ := id C
  have hown : s.vm.findClass "NetJoinsModel" = some m.cls := hown
  have hA : ∀ q, s.heap.size ≤ q → fA h0 s.heap.size q := fun _ h => Or.inr h
  intro x1 s0 s1 h H locs ls hw hl hR
  unfold wj_Mod_name_18 at hw
  obtain ⟨a1, ea1, t2, hw⟩ := hw
  refine mx_put (ci := 8) (C := "NetJoinsModel") (T := F_Mod) (N := 33) (v := .int s0) (h' := sI h 800 a1 s0) hx hb hW hown hK.1 hR (a := a1) ea1 t2 rfl i_Mod t_Mod t_Mod_ok n_Mod 0 0 (by decide) rfl kw_1135 (fun _ h9 => h9) rfl rfl rfl d_Mod_name_18 rfl (toE_sI (ci := 8) (k := 0) t2 rfl) (fun H locs hR => ?_)
  obtain ⟨h3, eh3⟩ : ∃ z, z = sI h 800 a1 s0 := ⟨_, rfl⟩
  rw [← eh3] at hR
  have hw := hw h3 eh3
  refine mx_aload_n (r := some v0) hx hb d_Mod_name_21 rfl (lv_at hl 0 rfl) ?_
  obtain ⟨t4, hw⟩ := hw
  refine mx_get (ci := 8) (C := "NetJoinsModel") (T := F_Mod) (N := 33) hx hb hW hown hK.1 hR (a := v0) rfl t4 rfl i_Mod 0 0 (by decide) rfl kw_1135 (fun _ h9 => h9) d_Mod_name_22 ?_
  refine lv_if_ne (tgt := 36) hx hb d_Mod_name_25 (by decide) (fun c5 => ?_) (fun c5 => ?_)
  · have hw := hw.1 c5
    refine lv_iconst (v := 0) hx hb d_Mod_name_36 (by decide) ?_
    exact mx_iret hx hb hr hlocks hR hw d_Mod_name_37
  · have hw := hw.2 c5
    refine mx_aload_n (r := some v0) hx hb d_Mod_name_28 rfl (lv_at hl 0 rfl) ?_
    refine lv_iload_n hx hb d_Mod_name_29 rfl (lv_at hl 1 rfl) ?_
    obtain ⟨t8, hw⟩ := hw
    refine mx_calli (va_runV (b := v0) (As := [.int x1]) (rest := []) ⟨hx, hb, hml, hown, hW⟩ (mt_Mod_nameOf l D cs Z _ hw) (mx_cwV hW ok_Mod_nameOf kw_1372 rfl rfl ⟨Nat.le_of_ble_eq_true rfl, Nat.le_of_ble_eq_true rfl⟩) (mx_preV hK hZ hA hR (ci := 8) rfl t8) rfl rfl hl.1 rfl (lv_room (Nat.le_of_ble_eq_true rfl)) d_Mod_name_30 ⟨Nat.le_of_ble_eq_true rfl, Nat.le_of_ble_eq_true rfl⟩) hR hA (fun r6 h7 H locs hw hR => ?_)
    try dsimp only at hw
    refine lv_goto (tgt := 37) hx hb d_Mod_name_33 (by decide) ?_
    exact mx_iret hx hb hr hlocks hR hw d_Mod_name_37
set_option maxHeartbeats 4000000 in
set_option maxRecDepth 100000 in
theorem mn_Mod_name_17 {D : va_G} {cs : CS} {Z : Nat → Nat} {h0 : HS} {p : Program} {l : Launch} {e : Env} {s : State} {m : MethodId} {args : Array Value} {below : List Frame} {meth : Method} {c : Code} {v0 : Nat} (C : mC D cs Z h0 y_Mod_name c_Mod_name 2 (some .int) p s m args meth c) (post : Int32 → HS → Prop) : ∀ (x1 : Int32) (s0 : Option Nat) (h : HS) (H : Heap) (locs : List Loc) (ls : Array Slot), wj_Mod_name_17 Z post v0 x1 s0 h → lv_has ls 2 [(0, va_rf (some v0)), (1, .int x1)] → mR D cs (fA h0 s.heap.size) h s.heap H locs → W p l e ({ frames := 5, cells := 0, slots := 0, locals := 169 } : Room) s m args below meth c H locs 0 0 (MQ below (va_Qi post (mB D cs h0 s.heap.size) (fA h0 s.heap.size)) args s 0 0 (fA h0 s.heap.size)) (F0 m 17 ls [va_rf s0]) := by
  obtain ⟨hx, hb, hr, hml, hown, hW, hlocks, hnm, hK, hZ⟩ := id C
  have hown : s.vm.findClass "NetJoinsModel" = some m.cls := hown
  have hA : ∀ q, s.heap.size ≤ q → fA h0 s.heap.size q := fun _ h => Or.inr h
  intro x1 s0 h H locs ls hw hl hR
  unfold wj_Mod_name_17 at hw
  refine lv_iconst (v := 1) hx hb d_Mod_name_17 (by decide) ?_
  exact mn_Mod_name_18 C post x1 (1 : Int32) s0 _ _ _ _ hw (lv_sub hl [0, 1] rfl) hR
set_option maxHeartbeats 4000000 in
set_option maxRecDepth 100000 in
theorem mt_Mod_name (l : Launch) (D : va_G) (cs : CS) (Z : Nat → Nat) (sz : Nat) {post : Int32 → HS → Prop} {h : HS} {v0 : Nat} {x1 : Int32} (hw : wp_Mod_name Z post h v0 x1) : Met l y_Mod_name (Cond.code y_Mod_name c_Mod_name 2 (some .int) :: WA) ({ frames := 5, cells := 0, slots := 0, locals := 169 } : Room) (mPc D cs Z h sz [va_rf (some v0), .int x1]) (va_Qi post (mB D cs h sz) (fA h sz)) 0 0 (fA h sz) := by
  refine mx_met (fun sz => va_Qi post (mB D cs h sz) (fA h sz)) (by decide) (by simp [lg_sl, mx_rf_cat, cat_i, cat_l]) ?_
  intro p e s m args below meth c C hR ls hl
  have hl : lv_has ls 2 [(0, va_rf (some v0)), (1, .int x1)] := hl
  obtain ⟨hx, hb, hr, hml, hown, hW, hlocks, hnm, hK, hZ⟩ := id C
  have hown : s.vm.findClass "NetJoinsModel" = some m.cls := hown
  have hA : ∀ q, s.heap.size ≤ q → fA h s.heap.size q := fun _ h => Or.inr h
  unfold wp_Mod_name at hw
  refine mx_aload_n (r := some v0) hx hb d_Mod_name_0 rfl (lv_at hl 0 rfl) ?_
  refine lv_iload_n hx hb d_Mod_name_1 rfl (lv_at hl 1 rfl) ?_
  refine lv_if_lt (tgt := 17) hx hb d_Mod_name_2 (by decide) (fun c1 => ?_) (fun c1 => ?_)
  · have hw := hw.1 c1
    exact mn_Mod_name_17 C post x1 (some v0) _ _ _ _ hw (lv_sub hl [0, 1] rfl) hR
  · have hw := hw.2 c1
    refine lv_iload_n hx hb d_Mod_name_5 rfl (lv_at hl 1 rfl) ?_
    refine mx_aload_n (r := some v0) hx hb d_Mod_name_6 rfl (lv_at hl 0 rfl) ?_
    obtain ⟨t2, hw⟩ := hw
    refine mx_get (ci := 8) (C := "NetJoinsModel") (T := F_Mod) (N := 33) hx hb hW hown hK.1 hR (a := v0) rfl t2 rfl i_Mod 29 0 (by decide) rfl kw_1164 (fun _ h9 => h9) d_Mod_name_7 ?_
    refine lv_icmp_ge (tgt := 17) hx hb d_Mod_name_10 (by decide) (fun c3 => ?_) (fun c3 => ?_)
    · have hw := hw.1 c3
      exact mn_Mod_name_17 C post x1 (some v0) _ _ _ _ hw (lv_sub hl [0, 1] rfl) hR
    · have hw := hw.2 c3
      refine lv_iconst (v := 0) hx hb d_Mod_name_13 (by decide) ?_
      refine lv_goto (tgt := 18) hx hb d_Mod_name_14 (by decide) ?_
      exact mn_Mod_name_18 C post x1 (0 : Int32) (some v0) _ _ _ _ hw (lv_sub hl [0, 1] rfl) hR
set_option maxHeartbeats 4000000 in
set_option maxRecDepth 100000 in
theorem mn_Mod_open_18 {D : va_G} {cs : CS} {Z : Nat → Nat} {h0 : HS} {p : Program} {l : Launch} {e : Env} {s : State} {m : MethodId} {args : Array Value} {below : List Frame} {meth : Method} {c : Code} {v0 : Nat} (C : mC D cs Z h0 y_Mod_open c_Mod_open 2 (some .boolean) p s m args meth c) (post : Int32 → HS → Prop) : ∀ (x1 : Int32) (s0 : Int32) (s1 : Option Nat) (h : HS) (H : Heap) (locs : List Loc) (ls : Array Slot), wj_Mod_open_18 Z post v0 x1 s0 s1 h → lv_has ls 2 [(0, va_rf (some v0)), (1, .int x1)] → mR D cs (fA h0 s.heap.size) h s.heap H locs → W p l e ({ frames := 2, cells := 0, slots := 0, locals := 100 } : Room) s m args below meth c H locs 0 0 (MQ below (va_Qi post (mB D cs h0 s.heap.size) (fA h0 s.heap.size)) args s 0 0 (fA h0 s.heap.size)) (F0 m 18 ls [.int s0, va_rf s1]) := by
  obtain ⟨hx, hb, hr, hml, hown, hW, hlocks, hnm, hK, hZ⟩ := id C
  have hown : s.vm.findClass "NetJoinsModel" = some m.cls := hown
  have hA : ∀ q, s.heap.size ≤ q → fA h0 s.heap.size q := fun _ h => Or.inr h
  intro x1 s0 s1 h H locs ls hw hl hR
  unfold wj_Mod_open_18 at hw
  obtain ⟨a1, ea1, t2, hw⟩ := hw
  refine mx_put (ci := 8) (C := "NetJoinsModel") (T := F_Mod) (N := 33) (v := .int s0) (h' := sI h 800 a1 s0) hx hb hW hown hK.1 hR (a := a1) ea1 t2 rfl i_Mod t_Mod t_Mod_ok n_Mod 0 0 (by decide) rfl kw_1135 (fun _ h9 => h9) rfl rfl rfl d_Mod_open_18 rfl (toE_sI (ci := 8) (k := 0) t2 rfl) (fun H locs hR => ?_)
  obtain ⟨h3, eh3⟩ : ∃ z, z = sI h 800 a1 s0 := ⟨_, rfl⟩
  rw [← eh3] at hR
  have hw := hw h3 eh3
  refine mx_aload_n (r := some v0) hx hb d_Mod_open_21 rfl (lv_at hl 0 rfl) ?_
  obtain ⟨t4, hw⟩ := hw
  refine mx_get (ci := 8) (C := "NetJoinsModel") (T := F_Mod) (N := 33) hx hb hW hown hK.1 hR (a := v0) rfl t4 rfl i_Mod 0 0 (by decide) rfl kw_1135 (fun _ h9 => h9) d_Mod_open_22 ?_
  refine lv_if_eq (tgt := 30) hx hb d_Mod_open_25 (by decide) (fun c5 => ?_) (fun c5 => ?_)
  · have hw := hw.1 c5
    refine mx_aload_n (r := some v0) hx hb d_Mod_open_30 rfl (lv_at hl 0 rfl) ?_
    obtain ⟨t6, hw⟩ := hw
    refine mx_get (ci := 8) (C := "NetJoinsModel") (T := F_Mod) (N := 33) hx hb hW hown hK.1 hR (a := v0) rfl t6 rfl i_Mod 19 2 (by decide) rfl kw_1154 (fun _ h9 => h9) d_Mod_open_31 ?_
    refine lv_iload_n hx hb d_Mod_open_34 rfl (lv_at hl 1 rfl) ?_
    refine mx_aload_n (r := some v0) hx hb d_Mod_open_35 rfl (lv_at hl 0 rfl) ?_
    obtain ⟨t7, hw⟩ := hw
    refine mx_get (ci := 8) (C := "NetJoinsModel") (T := F_Mod) (N := 33) hx hb hW hown hK.1 hR (a := v0) rfl t7 rfl i_Mod 19 2 (by decide) rfl kw_1154 (fun _ h9 => h9) d_Mod_open_36 ?_
    refine lv_iload_n hx hb d_Mod_open_39 rfl (lv_at hl 1 rfl) ?_
    obtain ⟨a8, ea8, t9, t9i, hw⟩ := hw
    refine mx_zald hx hb hK.1 hR (a := a8) ea8 t9 t9i d_Mod_open_40 ?_
    refine lv_if_ne (tgt := 48) hx hb d_Mod_open_41 (by decide) (fun c10 => ?_) (fun c10 => ?_)
    · have hw := hw.1 c10
      refine lv_iconst (v := 0) hx hb d_Mod_open_48 (by decide) ?_
      obtain ⟨a11, ea11, t12, t12i, hw⟩ := hw
      obtain ⟨z13, hw⟩ := hw
      refine mx_zast hx hb hK.1 hR (a := a11) ea11 t12 z13 t12i d_Mod_open_49 (fun H locs hR => ?_)
      obtain ⟨h14, eh14⟩ : ∃ z, z = sA h3 a11 x1.toNatClampNeg (0 : Int32) := ⟨_, rfl⟩
      rw [← eh14] at hR
      have hw := hw h14 eh14
      refine mx_aload_n (r := some v0) hx hb d_Mod_open_50 rfl (lv_at hl 0 rfl) ?_
      obtain ⟨t15, hw⟩ := hw
      refine mx_get (ci := 8) (C := "NetJoinsModel") (T := F_Mod) (N := 33) hx hb hW hown hK.1 hR (a := v0) rfl t15 rfl i_Mod 19 2 (by decide) rfl kw_1154 (fun _ h9 => h9) d_Mod_open_51 ?_
      refine lv_iload_n hx hb d_Mod_open_54 rfl (lv_at hl 1 rfl) ?_
      obtain ⟨a16, ea16, t17, t17i, hw⟩ := hw
      refine mx_zald hx hb hK.1 hR (a := a16) ea16 t17 t17i d_Mod_open_55 ?_
      exact mx_zret hx hb hr hlocks hR hw.1 hw.2 d_Mod_open_56
    · have hw := hw.2 c10
      refine lv_iconst (v := 1) hx hb d_Mod_open_44 (by decide) ?_
      refine lv_goto (tgt := 49) hx hb d_Mod_open_45 (by decide) ?_
      obtain ⟨a18, ea18, t19, t19i, hw⟩ := hw
      obtain ⟨z20, hw⟩ := hw
      refine mx_zast hx hb hK.1 hR (a := a18) ea18 t19 z20 t19i d_Mod_open_49 (fun H locs hR => ?_)
      obtain ⟨h21, eh21⟩ : ∃ z, z = sA h3 a18 x1.toNatClampNeg (1 : Int32) := ⟨_, rfl⟩
      rw [← eh21] at hR
      have hw := hw h21 eh21
      refine mx_aload_n (r := some v0) hx hb d_Mod_open_50 rfl (lv_at hl 0 rfl) ?_
      obtain ⟨t22, hw⟩ := hw
      refine mx_get (ci := 8) (C := "NetJoinsModel") (T := F_Mod) (N := 33) hx hb hW hown hK.1 hR (a := v0) rfl t22 rfl i_Mod 19 2 (by decide) rfl kw_1154 (fun _ h9 => h9) d_Mod_open_51 ?_
      refine lv_iload_n hx hb d_Mod_open_54 rfl (lv_at hl 1 rfl) ?_
      obtain ⟨a23, ea23, t24, t24i, hw⟩ := hw
      refine mx_zald hx hb hK.1 hR (a := a23) ea23 t24 t24i d_Mod_open_55 ?_
      exact mx_zret hx hb hr hlocks hR hw.1 hw.2 d_Mod_open_56
  · have hw := hw.2 c5
    refine lv_iconst (v := 0) hx hb d_Mod_open_28 (by decide) ?_
    exact mx_zret hx hb hr hlocks hR (Or.inl rfl) hw d_Mod_open_29
set_option maxHeartbeats 4000000 in
set_option maxRecDepth 100000 in
theorem mn_Mod_open_17 {D : va_G} {cs : CS} {Z : Nat → Nat} {h0 : HS} {p : Program} {l : Launch} {e : Env} {s : State} {m : MethodId} {args : Array Value} {below : List Frame} {meth : Method} {c : Code} {v0 : Nat} (C : mC D cs Z h0 y_Mod_open c_Mod_open 2 (some .boolean) p s m args meth c) (post : Int32 → HS → Prop) : ∀ (x1 : Int32) (s0 : Option Nat) (h : HS) (H : Heap) (locs : List Loc) (ls : Array Slot), wj_Mod_open_17 Z post v0 x1 s0 h → lv_has ls 2 [(0, va_rf (some v0)), (1, .int x1)] → mR D cs (fA h0 s.heap.size) h s.heap H locs → W p l e ({ frames := 2, cells := 0, slots := 0, locals := 100 } : Room) s m args below meth c H locs 0 0 (MQ below (va_Qi post (mB D cs h0 s.heap.size) (fA h0 s.heap.size)) args s 0 0 (fA h0 s.heap.size)) (F0 m 17 ls [va_rf s0]) := by
  obtain ⟨hx, hb, hr, hml, hown, hW, hlocks, hnm, hK, hZ⟩ := id C
  have hown : s.vm.findClass "NetJoinsModel" = some m.cls := hown
  have hA : ∀ q, s.heap.size ≤ q → fA h0 s.heap.size q := fun _ h => Or.inr h
  intro x1 s0 h H locs ls hw hl hR
  unfold wj_Mod_open_17 at hw
  refine lv_iconst (v := 1) hx hb d_Mod_open_17 (by decide) ?_
  exact mn_Mod_open_18 C post x1 (1 : Int32) s0 _ _ _ _ hw (lv_sub hl [0, 1] rfl) hR
set_option maxHeartbeats 4000000 in
set_option maxRecDepth 100000 in
theorem mt_Mod_open (l : Launch) (D : va_G) (cs : CS) (Z : Nat → Nat) (sz : Nat) {post : Int32 → HS → Prop} {h : HS} {v0 : Nat} {x1 : Int32} (hw : wp_Mod_open Z post h v0 x1) : Met l y_Mod_open (Cond.code y_Mod_open c_Mod_open 2 (some .boolean) :: WA) ({ frames := 2, cells := 0, slots := 0, locals := 100 } : Room) (mPc D cs Z h sz [va_rf (some v0), .int x1]) (va_Qi post (mB D cs h sz) (fA h sz)) 0 0 (fA h sz) := by
  refine mx_met (fun sz => va_Qi post (mB D cs h sz) (fA h sz)) (by decide) (by simp [lg_sl, mx_rf_cat, cat_i, cat_l]) ?_
  intro p e s m args below meth c C hR ls hl
  have hl : lv_has ls 2 [(0, va_rf (some v0)), (1, .int x1)] := hl
  obtain ⟨hx, hb, hr, hml, hown, hW, hlocks, hnm, hK, hZ⟩ := id C
  have hown : s.vm.findClass "NetJoinsModel" = some m.cls := hown
  have hA : ∀ q, s.heap.size ≤ q → fA h s.heap.size q := fun _ h => Or.inr h
  unfold wp_Mod_open at hw
  refine mx_aload_n (r := some v0) hx hb d_Mod_open_0 rfl (lv_at hl 0 rfl) ?_
  refine lv_iload_n hx hb d_Mod_open_1 rfl (lv_at hl 1 rfl) ?_
  refine lv_if_lt (tgt := 17) hx hb d_Mod_open_2 (by decide) (fun c1 => ?_) (fun c1 => ?_)
  · have hw := hw.1 c1
    exact mn_Mod_open_17 C post x1 (some v0) _ _ _ _ hw (lv_sub hl [0, 1] rfl) hR
  · have hw := hw.2 c1
    refine lv_iload_n hx hb d_Mod_open_5 rfl (lv_at hl 1 rfl) ?_
    refine mx_aload_n (r := some v0) hx hb d_Mod_open_6 rfl (lv_at hl 0 rfl) ?_
    obtain ⟨t2, hw⟩ := hw
    refine mx_get (ci := 8) (C := "NetJoinsModel") (T := F_Mod) (N := 33) hx hb hW hown hK.1 hR (a := v0) rfl t2 rfl i_Mod 15 0 (by decide) rfl kw_1150 (fun _ h9 => h9) d_Mod_open_7 ?_
    refine lv_icmp_ge (tgt := 17) hx hb d_Mod_open_10 (by decide) (fun c3 => ?_) (fun c3 => ?_)
    · have hw := hw.1 c3
      exact mn_Mod_open_17 C post x1 (some v0) _ _ _ _ hw (lv_sub hl [0, 1] rfl) hR
    · have hw := hw.2 c3
      refine lv_iconst (v := 0) hx hb d_Mod_open_13 (by decide) ?_
      refine lv_goto (tgt := 18) hx hb d_Mod_open_14 (by decide) ?_
      exact mn_Mod_open_18 C post x1 (0 : Int32) (some v0) _ _ _ _ hw (lv_sub hl [0, 1] rfl) hR
set_option maxHeartbeats 4000000 in
set_option maxRecDepth 100000 in
theorem mn_Mod_isBare_129 {D : va_G} {cs : CS} {Z : Nat → Nat} {h0 : HS} {p : Program} {l : Launch} {e : Env} {s : State} {m : MethodId} {args : Array Value} {below : List Frame} {meth : Method} {c : Code} {v0 : Nat} (C : mC D cs Z h0 y_Mod_isBare c_Mod_isBare 8 (some .boolean) p s m args meth c) (post : Int32 → HS → Prop) (K75 : Int64 × Int64 × Int32 × Int32 × HS → Prop) (hK75 : ∀ (x2 : Int64) (x4 : Int64) (x6 : Int32) (x7 : Int32) (h : HS) (H : Heap) (locs : List Loc) (ls : Array Slot), K75 (x2, x4, x6, x7, h) → lv_has ls 8 [(0, va_rf (some v0)), (2, .long x2), (4, .long x4), (6, .int x6), (7, .int x7)] → mR D cs (fA h0 s.heap.size) h s.heap H locs → W p l e ({ frames := 3, cells := 0, slots := 0, locals := 134 } : Room) s m args below meth c H locs 0 0 (MQ below (va_Qi post (mB D cs h0 s.heap.size) (fA h0 s.heap.size)) args s 0 0 (fA h0 s.heap.size)) (F0 m 75 ls [])) : ∀ (x2 : Int64) (x4 : Int64) (x6 : Int32) (x7 : Int32) (h : HS) (H : Heap) (locs : List Loc) (ls : Array Slot), wj_Mod_isBare_129 Z post K75 v0 x2 x4 x6 x7 h → lv_has ls 8 [(0, va_rf (some v0)), (2, .long x2), (4, .long x4), (6, .int x6), (7, .int x7)] → mR D cs (fA h0 s.heap.size) h s.heap H locs → W p l e ({ frames := 3, cells := 0, slots := 0, locals := 134 } : Room) s m args below meth c H locs 0 0 (MQ below (va_Qi post (mB D cs h0 s.heap.size) (fA h0 s.heap.size)) args s 0 0 (fA h0 s.heap.size)) (F0 m 129 ls []) := by
  obtain ⟨hx, hb, hr, hml, hown, hW, hlocks, hnm, hK, hZ⟩ := id C
  have hown : s.vm.findClass "NetJoinsModel" = some m.cls := hown
  have hA : ∀ q, s.heap.size ≤ q → fA h0 s.heap.size q := fun _ h => Or.inr h
  intro x2 x4 x6 x7 h H locs ls hw hl hR
  unfold wj_Mod_isBare_129 at hw
  obtain ⟨y1, ey1⟩ : ∃ y : Int32, y = x7 + (1 : Int32) := ⟨_, rfl⟩
  have hw := hw y1 ey1
  refine lv_iinc (v := y1) (lv' := [(7, .int y1), (0, va_rf (some v0)), (2, .long x2), (4, .long x4), (6, .int x6)]) hx hb d_Mod_isBare_129 hl (k := 4) rfl (by rw [ey1]; rfl) (by decide) rfl (fun ls hl => ?_)
  refine lv_goto (tgt := 75) hx hb d_Mod_isBare_132 (by decide) ?_
  exact hK75 x2 x4 x6 y1 _ _ _ _ hw (lv_sub hl [1, 2, 3, 4, 0] rfl) hR
set_option maxHeartbeats 4000000 in
set_option maxRecDepth 100000 in
theorem mn_Mod_isBare_75 {D : va_G} {cs : CS} {Z : Nat → Nat} {h0 : HS} {p : Program} {l : Launch} {e : Env} {s : State} {m : MethodId} {args : Array Value} {below : List Frame} {meth : Method} {c : Code} {v0 : Nat} (C : mC D cs Z h0 y_Mod_isBare c_Mod_isBare 8 (some .boolean) p s m args meth c) (post : Int32 → HS → Prop) : ∀ (n : Nat) (x2 : Int64) (x4 : Int64) (x6 : Int32) (x7 : Int32) (h : HS) (H : Heap) (locs : List Loc) (ls : Array Slot), lpF (wb_Mod_isBare_75 Z post v0) n (x2, x4, x6, x7, h) → lv_has ls 8 [(0, va_rf (some v0)), (2, .long x2), (4, .long x4), (6, .int x6), (7, .int x7)] → mR D cs (fA h0 s.heap.size) h s.heap H locs → W p l e ({ frames := 3, cells := 0, slots := 0, locals := 134 } : Room) s m args below meth c H locs 0 0 (MQ below (va_Qi post (mB D cs h0 s.heap.size) (fA h0 s.heap.size)) args s 0 0 (fA h0 s.heap.size)) (F0 m 75 ls []) := by
  obtain ⟨hx, hb, hr, hml, hown, hW, hlocks, hnm, hK, hZ⟩ := id C
  have hown : s.vm.findClass "NetJoinsModel" = some m.cls := hown
  have hA : ∀ q, s.heap.size ≤ q → fA h0 s.heap.size q := fun _ h => Or.inr h
  intro n
  induction n with
  | zero => intro x2 x4 x6 x7 h H locs ls hw; exact hw.elim
  | succ n ih =>
    intro x2 x4 x6 x7 h H locs ls hw hl hR
    have hw : wb_Mod_isBare_75 Z post v0 (lpF (wb_Mod_isBare_75 Z post v0) n) (x2, x4, x6, x7, h) := hw
    unfold wb_Mod_isBare_75 at hw
    dsimp only at hw
    refine lv_iload hx hb d_Mod_isBare_75 (lv_at hl 4 rfl) ?_
    refine mx_aload_n (r := some v0) hx hb d_Mod_isBare_77 rfl (lv_at hl 0 rfl) ?_
    obtain ⟨t1, hw⟩ := hw
    refine mx_get (ci := 8) (C := "NetJoinsModel") (T := F_Mod) (N := 33) hx hb hW hown hK.1 hR (a := v0) rfl t1 rfl i_Mod 15 0 (by decide) rfl kw_1150 (fun _ h9 => h9) d_Mod_isBare_78 ?_
    refine lv_icmp_ge (tgt := 135) hx hb d_Mod_isBare_81 (by decide) (fun c2 => ?_) (fun c2 => ?_)
    · have hw := hw.1 c2
      refine lv_iconst (v := 1) hx hb d_Mod_isBare_135 (by decide) ?_
      exact mx_zret hx hb hr hlocks hR (Or.inr rfl) hw d_Mod_isBare_136
    · have hw := hw.2 c2
      refine mx_aload_n (r := some v0) hx hb d_Mod_isBare_84 rfl (lv_at hl 0 rfl) ?_
      obtain ⟨t3, hw⟩ := hw
      refine mx_get (ci := 8) (C := "NetJoinsModel") (T := F_Mod) (N := 33) hx hb hW hown hK.1 hR (a := v0) rfl t3 rfl i_Mod 16 2 (by decide) rfl kw_1151 (fun _ h9 => h9) d_Mod_isBare_85 ?_
      refine lv_iload hx hb d_Mod_isBare_88 (lv_at hl 4 rfl) ?_
      obtain ⟨a4, ea4, t5, t5i, hw⟩ := hw
      refine mx_iald hx hb hK.1 hR (a := a4) ea4 t5 t5i d_Mod_isBare_90 ?_
      refine lv_iload hx hb d_Mod_isBare_91 (lv_at hl 3 rfl) ?_
      refine lv_icmp_ne (tgt := 129) hx hb d_Mod_isBare_93 (by decide) (fun c6 => ?_) (fun c6 => ?_)
      · have hw := hw.1 c6
        exact mn_Mod_isBare_129 C post (lpF (wb_Mod_isBare_75 Z post v0) n) ih x2 x4 x6 x7 _ _ _ _ hw (lv_sub hl [0, 1, 2, 3, 4] rfl) hR
      · have hw := hw.2 c6
        refine mx_aload_n (r := some v0) hx hb d_Mod_isBare_96 rfl (lv_at hl 0 rfl) ?_
        obtain ⟨t7, hw⟩ := hw
        refine mx_get (ci := 8) (C := "NetJoinsModel") (T := F_Mod) (N := 33) hx hb hW hown hK.1 hR (a := v0) rfl t7 rfl i_Mod 18 2 (by decide) rfl kw_1153 (fun _ h9 => h9) d_Mod_isBare_97 ?_
        refine lv_iconst (v := 2) hx hb d_Mod_isBare_100 (by decide) ?_
        refine lv_iload hx hb d_Mod_isBare_101 (lv_at hl 4 rfl) ?_
        refine lv_imul hx hb d_Mod_isBare_103 ?_
        obtain ⟨a8, ea8, t9, t9i, hw⟩ := hw
        refine mx_lald hx hb hK.1 hR (a := a8) ea8 t9 t9i d_Mod_isBare_104 ?_
        refine lv_lload_n hx hb d_Mod_isBare_105 rfl (lv_at hl 1 rfl) ?_
        refine W.lcmp hx hb d_Mod_isBare_106 ?_
        refine lv_if_ne (tgt := 129) hx hb d_Mod_isBare_107 (by decide) (fun c10 => ?_) (fun c10 => ?_)
        · have hw := hw.1 c10
          exact mn_Mod_isBare_129 C post (lpF (wb_Mod_isBare_75 Z post v0) n) ih x2 x4 x6 x7 _ _ _ _ hw (lv_sub hl [0, 1, 2, 3, 4] rfl) hR
        · have hw := hw.2 c10
          refine mx_aload_n (r := some v0) hx hb d_Mod_isBare_110 rfl (lv_at hl 0 rfl) ?_
          obtain ⟨t11, hw⟩ := hw
          refine mx_get (ci := 8) (C := "NetJoinsModel") (T := F_Mod) (N := 33) hx hb hW hown hK.1 hR (a := v0) rfl t11 rfl i_Mod 18 2 (by decide) rfl kw_1153 (fun _ h9 => h9) d_Mod_isBare_111 ?_
          refine lv_iconst (v := 2) hx hb d_Mod_isBare_114 (by decide) ?_
          refine lv_iload hx hb d_Mod_isBare_115 (lv_at hl 4 rfl) ?_
          refine lv_imul hx hb d_Mod_isBare_117 ?_
          refine lv_iconst (v := 1) hx hb d_Mod_isBare_118 (by decide) ?_
          refine lv_iadd hx hb d_Mod_isBare_119 ?_
          obtain ⟨a12, ea12, t13, t13i, hw⟩ := hw
          refine mx_lald hx hb hK.1 hR (a := a12) ea12 t13 t13i d_Mod_isBare_120 ?_
          refine lv_lload hx hb d_Mod_isBare_121 (lv_at hl 2 rfl) ?_
          refine W.lcmp hx hb d_Mod_isBare_123 ?_
          refine lv_if_ne (tgt := 129) hx hb d_Mod_isBare_124 (by decide) (fun c14 => ?_) (fun c14 => ?_)
          · have hw := hw.1 c14
            exact mn_Mod_isBare_129 C post (lpF (wb_Mod_isBare_75 Z post v0) n) ih x2 x4 x6 x7 _ _ _ _ hw (lv_sub hl [0, 1, 2, 3, 4] rfl) hR
          · have hw := hw.2 c14
            refine lv_iconst (v := 0) hx hb d_Mod_isBare_127 (by decide) ?_
            exact mx_zret hx hb hr hlocks hR (Or.inl rfl) hw d_Mod_isBare_128
set_option maxHeartbeats 4000000 in
set_option maxRecDepth 100000 in
theorem mn_Mod_isBare_66 {D : va_G} {cs : CS} {Z : Nat → Nat} {h0 : HS} {p : Program} {l : Launch} {e : Env} {s : State} {m : MethodId} {args : Array Value} {below : List Frame} {meth : Method} {c : Code} {v0 : Nat} (C : mC D cs Z h0 y_Mod_isBare c_Mod_isBare 8 (some .boolean) p s m args meth c) (post : Int32 → HS → Prop) (K32 : Int64 × Int64 × Int32 × Int32 × HS → Prop) (hK32 : ∀ (x2 : Int64) (x4 : Int64) (x6 : Int32) (x7 : Int32) (h : HS) (H : Heap) (locs : List Loc) (ls : Array Slot), K32 (x2, x4, x6, x7, h) → lv_has ls 8 [(0, va_rf (some v0)), (2, .long x2), (4, .long x4), (6, .int x6), (7, .int x7)] → mR D cs (fA h0 s.heap.size) h s.heap H locs → W p l e ({ frames := 3, cells := 0, slots := 0, locals := 134 } : Room) s m args below meth c H locs 0 0 (MQ below (va_Qi post (mB D cs h0 s.heap.size) (fA h0 s.heap.size)) args s 0 0 (fA h0 s.heap.size)) (F0 m 32 ls [])) : ∀ (x2 : Int64) (x4 : Int64) (x6 : Int32) (x7 : Int32) (h : HS) (H : Heap) (locs : List Loc) (ls : Array Slot), wj_Mod_isBare_66 Z post K32 v0 x2 x4 x6 x7 h → lv_has ls 8 [(0, va_rf (some v0)), (2, .long x2), (4, .long x4), (6, .int x6), (7, .int x7)] → mR D cs (fA h0 s.heap.size) h s.heap H locs → W p l e ({ frames := 3, cells := 0, slots := 0, locals := 134 } : Room) s m args below meth c H locs 0 0 (MQ below (va_Qi post (mB D cs h0 s.heap.size) (fA h0 s.heap.size)) args s 0 0 (fA h0 s.heap.size)) (F0 m 66 ls []) := by
  obtain ⟨hx, hb, hr, hml, hown, hW, hlocks, hnm, hK, hZ⟩ := id C
  have hown : s.vm.findClass "NetJoinsModel" = some m.cls := hown
  have hA : ∀ q, s.heap.size ≤ q → fA h0 s.heap.size q := fun _ h => Or.inr h
  intro x2 x4 x6 x7 h H locs ls hw hl hR
  unfold wj_Mod_isBare_66 at hw
  obtain ⟨y1, ey1⟩ : ∃ y : Int32, y = x7 + (1 : Int32) := ⟨_, rfl⟩
  have hw := hw y1 ey1
  refine lv_iinc (v := y1) (lv' := [(7, .int y1), (0, va_rf (some v0)), (2, .long x2), (4, .long x4), (6, .int x6)]) hx hb d_Mod_isBare_66 hl (k := 4) rfl (by rw [ey1]; rfl) (by decide) rfl (fun ls hl => ?_)
  refine lv_goto (tgt := 32) hx hb d_Mod_isBare_69 (by decide) ?_
  exact hK32 x2 x4 x6 y1 _ _ _ _ hw (lv_sub hl [1, 2, 3, 4, 0] rfl) hR
set_option maxHeartbeats 4000000 in
set_option maxRecDepth 100000 in
theorem mn_Mod_isBare_32 {D : va_G} {cs : CS} {Z : Nat → Nat} {h0 : HS} {p : Program} {l : Launch} {e : Env} {s : State} {m : MethodId} {args : Array Value} {below : List Frame} {meth : Method} {c : Code} {v0 : Nat} (C : mC D cs Z h0 y_Mod_isBare c_Mod_isBare 8 (some .boolean) p s m args meth c) (post : Int32 → HS → Prop) : ∀ (n : Nat) (x2 : Int64) (x4 : Int64) (x6 : Int32) (x7 : Int32) (h : HS) (H : Heap) (locs : List Loc) (ls : Array Slot), lpF (wb_Mod_isBare_32 Z post v0) n (x2, x4, x6, x7, h) → lv_has ls 8 [(0, va_rf (some v0)), (2, .long x2), (4, .long x4), (6, .int x6), (7, .int x7)] → mR D cs (fA h0 s.heap.size) h s.heap H locs → W p l e ({ frames := 3, cells := 0, slots := 0, locals := 134 } : Room) s m args below meth c H locs 0 0 (MQ below (va_Qi post (mB D cs h0 s.heap.size) (fA h0 s.heap.size)) args s 0 0 (fA h0 s.heap.size)) (F0 m 32 ls []) := by
  obtain ⟨hx, hb, hr, hml, hown, hW, hlocks, hnm, hK, hZ⟩ := id C
  have hown : s.vm.findClass "NetJoinsModel" = some m.cls := hown
  have hA : ∀ q, s.heap.size ≤ q → fA h0 s.heap.size q := fun _ h => Or.inr h
  intro n
  induction n with
  | zero => intro x2 x4 x6 x7 h H locs ls hw; exact hw.elim
  | succ n ih =>
    intro x2 x4 x6 x7 h H locs ls hw hl hR
    have hw : wb_Mod_isBare_32 Z post v0 (lpF (wb_Mod_isBare_32 Z post v0) n) (x2, x4, x6, x7, h) := hw
    unfold wb_Mod_isBare_32 at hw
    dsimp only at hw
    refine lv_iload hx hb d_Mod_isBare_32 (lv_at hl 4 rfl) ?_
    refine mx_aload_n (r := some v0) hx hb d_Mod_isBare_34 rfl (lv_at hl 0 rfl) ?_
    obtain ⟨t1, hw⟩ := hw
    refine mx_get (ci := 8) (C := "NetJoinsModel") (T := F_Mod) (N := 33) hx hb hW hown hK.1 hR (a := v0) rfl t1 rfl i_Mod 4 0 (by decide) rfl kw_1139 (fun _ h9 => h9) d_Mod_isBare_35 ?_
    refine lv_icmp_ge (tgt := 72) hx hb d_Mod_isBare_38 (by decide) (fun c2 => ?_) (fun c2 => ?_)
    · have hw := hw.1 c2
      refine lv_iconst (v := 0) hx hb d_Mod_isBare_72 (by decide) ?_
      refine lv_istore (i := 7) (lv' := [(7, .int (0 : Int32)), (0, va_rf (some v0)), (2, .long x2), (4, .long x4), (6, .int x6)]) hx hb d_Mod_isBare_73 hl (by decide) rfl (fun ls hl => ?_)
      obtain ⟨n9, hw⟩ := hw
      exact mn_Mod_isBare_75 C post n9 x2 x4 x6 (0 : Int32) _ _ _ _ hw (lv_sub hl [1, 2, 3, 4, 0] rfl) hR
    · have hw := hw.2 c2
      refine mx_aload_n (r := some v0) hx hb d_Mod_isBare_41 rfl (lv_at hl 0 rfl) ?_
      refine lv_iload hx hb d_Mod_isBare_42 (lv_at hl 4 rfl) ?_
      refine lv_iload hx hb d_Mod_isBare_44 (lv_at hl 3 rfl) ?_
      obtain ⟨t5, hw⟩ := hw
      refine mx_calli (va_runV (b := v0) (As := [.int x7, .int x6]) (rest := []) ⟨hx, hb, hml, hown, hW⟩ (mt_Mod_isOn l D cs Z _ hw) (mx_cwV hW ok_Mod_isOn kw_1264 rfl rfl ⟨Nat.le_of_ble_eq_true rfl, Nat.le_of_ble_eq_true rfl⟩) (mx_preV hK hZ hA hR (ci := 8) rfl t5) rfl rfl hl.1 rfl (lv_room (Nat.le_of_ble_eq_true rfl)) d_Mod_isBare_46 ⟨Nat.le_of_ble_eq_true rfl, Nat.le_of_ble_eq_true rfl⟩) hR hA (fun r3 h4 H locs hw hR => ?_)
      try dsimp only at hw
      refine lv_if_eq (tgt := 66) hx hb d_Mod_isBare_49 (by decide) (fun c6 => ?_) (fun c6 => ?_)
      · have hw := hw.1 c6
        exact mn_Mod_isBare_66 C post (lpF (wb_Mod_isBare_32 Z post v0) n) ih x2 x4 x6 x7 _ _ _ _ hw (lv_sub hl [0, 1, 2, 3, 4] rfl) hR
      · have hw := hw.2 c6
        refine mx_aload_n (r := some v0) hx hb d_Mod_isBare_52 rfl (lv_at hl 0 rfl) ?_
        refine lv_iload hx hb d_Mod_isBare_53 (lv_at hl 4 rfl) ?_
        refine lv_lload_n hx hb d_Mod_isBare_55 rfl (lv_at hl 1 rfl) ?_
        refine lv_lload hx hb d_Mod_isBare_56 (lv_at hl 2 rfl) ?_
        obtain ⟨t9, hw⟩ := hw
        refine mx_calli (va_runV (b := v0) (As := [.int x7, .long x2, .long x4]) (rest := []) ⟨hx, hb, hml, hown, hW⟩ (mt_Mod_goesThrough l D cs Z _ hw) (mx_cwV hW ok_Mod_goesThrough kw_1272 rfl rfl ⟨Nat.le_of_ble_eq_true rfl, Nat.le_of_ble_eq_true rfl⟩) (mx_preV hK hZ hA hR (ci := 8) rfl t9) rfl rfl hl.1 rfl (lv_room (Nat.le_of_ble_eq_true rfl)) d_Mod_isBare_58 ⟨Nat.le_of_ble_eq_true rfl, Nat.le_of_ble_eq_true rfl⟩) hR hA (fun r7 h8 H locs hw hR => ?_)
        try dsimp only at hw
        refine lv_if_eq (tgt := 66) hx hb d_Mod_isBare_61 (by decide) (fun c10 => ?_) (fun c10 => ?_)
        · have hw := hw.1 c10
          exact mn_Mod_isBare_66 C post (lpF (wb_Mod_isBare_32 Z post v0) n) ih x2 x4 x6 x7 _ _ _ _ hw (lv_sub hl [0, 1, 2, 3, 4] rfl) hR
        · have hw := hw.2 c10
          refine lv_iconst (v := 0) hx hb d_Mod_isBare_64 (by decide) ?_
          exact mx_zret hx hb hr hlocks hR (Or.inl rfl) hw d_Mod_isBare_65
set_option maxHeartbeats 4000000 in
set_option maxRecDepth 100000 in
theorem mt_Mod_isBare (l : Launch) (D : va_G) (cs : CS) (Z : Nat → Nat) (sz : Nat) {post : Int32 → HS → Prop} {h : HS} {v0 : Nat} {x1 : Int32} (hw : wp_Mod_isBare Z post h v0 x1) : Met l y_Mod_isBare (Cond.code y_Mod_isBare c_Mod_isBare 8 (some .boolean) :: WA) ({ frames := 3, cells := 0, slots := 0, locals := 134 } : Room) (mPc D cs Z h sz [va_rf (some v0), .int x1]) (va_Qi post (mB D cs h sz) (fA h sz)) 0 0 (fA h sz) := by
  refine mx_met (fun sz => va_Qi post (mB D cs h sz) (fA h sz)) (by decide) (by simp [lg_sl, mx_rf_cat, cat_i, cat_l]) ?_
  intro p e s m args below meth c C hR ls hl
  have hl : lv_has ls 8 [(0, va_rf (some v0)), (1, .int x1)] := hl
  obtain ⟨hx, hb, hr, hml, hown, hW, hlocks, hnm, hK, hZ⟩ := id C
  have hown : s.vm.findClass "NetJoinsModel" = some m.cls := hown
  have hA : ∀ q, s.heap.size ≤ q → fA h s.heap.size q := fun _ h => Or.inr h
  unfold wp_Mod_isBare at hw
  refine mx_aload_n (r := some v0) hx hb d_Mod_isBare_0 rfl (lv_at hl 0 rfl) ?_
  obtain ⟨t1, hw⟩ := hw
  refine mx_get (ci := 8) (C := "NetJoinsModel") (T := F_Mod) (N := 33) hx hb hW hown hK.1 hR (a := v0) rfl t1 rfl i_Mod 14 2 (by decide) rfl kw_1149 (fun _ h9 => h9) d_Mod_isBare_1 ?_
  refine lv_iconst (v := 2) hx hb d_Mod_isBare_4 (by decide) ?_
  refine lv_iload_n hx hb d_Mod_isBare_5 rfl (lv_at hl 1 rfl) ?_
  refine lv_imul hx hb d_Mod_isBare_6 ?_
  obtain ⟨a2, ea2, t3, t3i, hw⟩ := hw
  refine mx_lald hx hb hK.1 hR (a := a2) ea2 t3 t3i d_Mod_isBare_7 ?_
  refine lv_topl (fun y4 ey4 => ?_)
  have hw := hw y4 ey4
  refine lv_lstore_n (i := 2) (lv' := [(2, .long y4), (0, va_rf (some v0)), (1, .int x1)]) hx hb d_Mod_isBare_8 rfl hl (by decide) rfl (fun ls hl => ?_)
  refine mx_aload_n (r := some v0) hx hb d_Mod_isBare_9 rfl (lv_at hl 1 rfl) ?_
  obtain ⟨t5, hw⟩ := hw
  refine mx_get (ci := 8) (C := "NetJoinsModel") (T := F_Mod) (N := 33) hx hb hW hown hK.1 hR (a := v0) rfl t5 rfl i_Mod 14 2 (by decide) rfl kw_1149 (fun _ h9 => h9) d_Mod_isBare_10 ?_
  refine lv_iconst (v := 2) hx hb d_Mod_isBare_13 (by decide) ?_
  refine lv_iload_n hx hb d_Mod_isBare_14 rfl (lv_at hl 2 rfl) ?_
  refine lv_imul hx hb d_Mod_isBare_15 ?_
  refine lv_iconst (v := 1) hx hb d_Mod_isBare_16 (by decide) ?_
  refine lv_iadd hx hb d_Mod_isBare_17 ?_
  obtain ⟨a6, ea6, t7, t7i, hw⟩ := hw
  refine mx_lald hx hb hK.1 hR (a := a6) ea6 t7 t7i d_Mod_isBare_18 ?_
  refine lv_topl (fun y8 ey8 => ?_)
  have hw := hw y8 ey8
  refine lv_lstore (i := 4) (lv' := [(4, .long y8), (2, .long y4), (0, va_rf (some v0)), (1, .int x1)]) hx hb d_Mod_isBare_19 hl (by decide) rfl (fun ls hl => ?_)
  refine mx_aload_n (r := some v0) hx hb d_Mod_isBare_21 rfl (lv_at hl 2 rfl) ?_
  obtain ⟨t9, hw⟩ := hw
  refine mx_get (ci := 8) (C := "NetJoinsModel") (T := F_Mod) (N := 33) hx hb hW hown hK.1 hR (a := v0) rfl t9 rfl i_Mod 12 2 (by decide) rfl kw_1147 (fun _ h9 => h9) d_Mod_isBare_22 ?_
  refine lv_iload_n hx hb d_Mod_isBare_25 rfl (lv_at hl 3 rfl) ?_
  obtain ⟨a10, ea10, t11, t11i, hw⟩ := hw
  refine mx_iald hx hb hK.1 hR (a := a10) ea10 t11 t11i d_Mod_isBare_26 ?_
  refine lv_topi (fun y12 ey12 => ?_)
  have hw := hw y12 ey12
  refine lv_istore (i := 6) (lv' := [(6, .int y12), (4, .long y8), (2, .long y4), (0, va_rf (some v0)), (1, .int x1)]) hx hb d_Mod_isBare_27 hl (by decide) rfl (fun ls hl => ?_)
  refine lv_iconst (v := 0) hx hb d_Mod_isBare_29 (by decide) ?_
  refine lv_istore (i := 7) (lv' := [(7, .int (0 : Int32)), (6, .int y12), (4, .long y8), (2, .long y4), (0, va_rf (some v0)), (1, .int x1)]) hx hb d_Mod_isBare_30 hl (by decide) rfl (fun ls hl => ?_)
  obtain ⟨n9, hw⟩ := hw
  exact mn_Mod_isBare_32 C post n9 y4 y8 y12 (0 : Int32) _ _ _ _ hw (lv_sub hl [4, 3, 2, 1, 0] rfl) hR
set_option maxHeartbeats 4000000 in
set_option maxRecDepth 100000 in
theorem mn_Mod_isJoined_63 {D : va_G} {cs : CS} {Z : Nat → Nat} {h0 : HS} {p : Program} {l : Launch} {e : Env} {s : State} {m : MethodId} {args : Array Value} {below : List Frame} {meth : Method} {c : Code} {v0 : Nat} (C : mC D cs Z h0 y_Mod_isJoined c_Mod_isJoined 4 (some .boolean) p s m args meth c) (post : Int32 → HS → Prop) (K5 : Int32 × Int32 × HS → Prop) (hK5 : ∀ (x1 : Int32) (x2 : Int32) (h : HS) (H : Heap) (locs : List Loc) (ls : Array Slot), K5 (x1, x2, h) → lv_has ls 4 [(0, va_rf (some v0)), (1, .int x1), (2, .int x2)] → mR D cs (fA h0 s.heap.size) h s.heap H locs → W p l e ({ frames := 2, cells := 0, slots := 0, locals := 100 } : Room) s m args below meth c H locs 0 0 (MQ below (va_Qi post (mB D cs h0 s.heap.size) (fA h0 s.heap.size)) args s 0 0 (fA h0 s.heap.size)) (F0 m 5 ls [])) : ∀ (x1 : Int32) (x2 : Int32) (h : HS) (H : Heap) (locs : List Loc) (ls : Array Slot), wj_Mod_isJoined_63 Z post K5 v0 x1 x2 h → lv_has ls 4 [(0, va_rf (some v0)), (1, .int x1), (2, .int x2)] → mR D cs (fA h0 s.heap.size) h s.heap H locs → W p l e ({ frames := 2, cells := 0, slots := 0, locals := 100 } : Room) s m args below meth c H locs 0 0 (MQ below (va_Qi post (mB D cs h0 s.heap.size) (fA h0 s.heap.size)) args s 0 0 (fA h0 s.heap.size)) (F0 m 63 ls []) := by
  obtain ⟨hx, hb, hr, hml, hown, hW, hlocks, hnm, hK, hZ⟩ := id C
  have hown : s.vm.findClass "NetJoinsModel" = some m.cls := hown
  have hA : ∀ q, s.heap.size ≤ q → fA h0 s.heap.size q := fun _ h => Or.inr h
  intro x1 x2 h H locs ls hw hl hR
  unfold wj_Mod_isJoined_63 at hw
  obtain ⟨y1, ey1⟩ : ∃ y : Int32, y = x2 + (1 : Int32) := ⟨_, rfl⟩
  have hw := hw y1 ey1
  refine lv_iinc (v := y1) (lv' := [(2, .int y1), (0, va_rf (some v0)), (1, .int x1)]) hx hb d_Mod_isJoined_63 hl (k := 2) rfl (by rw [ey1]; rfl) (by decide) rfl (fun ls hl => ?_)
  refine lv_goto (tgt := 5) hx hb d_Mod_isJoined_66 (by decide) ?_
  exact hK5 x1 y1 _ _ _ _ hw (lv_sub hl [1, 2, 0] rfl) hR
set_option maxHeartbeats 4000000 in
set_option maxRecDepth 100000 in
theorem mn_Mod_isJoined_57 {D : va_G} {cs : CS} {Z : Nat → Nat} {h0 : HS} {p : Program} {l : Launch} {e : Env} {s : State} {m : MethodId} {args : Array Value} {below : List Frame} {meth : Method} {c : Code} {v0 : Nat} (C : mC D cs Z h0 y_Mod_isJoined c_Mod_isJoined 4 (some .boolean) p s m args meth c) (post : Int32 → HS → Prop) (K5 : Int32 × Int32 × HS → Prop) (K18 : Int32 × Int32 × Int32 × HS → Prop) (hK5 : ∀ (x1 : Int32) (x2 : Int32) (h : HS) (H : Heap) (locs : List Loc) (ls : Array Slot), K5 (x1, x2, h) → lv_has ls 4 [(0, va_rf (some v0)), (1, .int x1), (2, .int x2)] → mR D cs (fA h0 s.heap.size) h s.heap H locs → W p l e ({ frames := 2, cells := 0, slots := 0, locals := 100 } : Room) s m args below meth c H locs 0 0 (MQ below (va_Qi post (mB D cs h0 s.heap.size) (fA h0 s.heap.size)) args s 0 0 (fA h0 s.heap.size)) (F0 m 5 ls [])) (hK18 : ∀ (x1 : Int32) (x2 : Int32) (x3 : Int32) (h : HS) (H : Heap) (locs : List Loc) (ls : Array Slot), K18 (x1, x2, x3, h) → lv_has ls 4 [(0, va_rf (some v0)), (1, .int x1), (2, .int x2), (3, .int x3)] → mR D cs (fA h0 s.heap.size) h s.heap H locs → W p l e ({ frames := 2, cells := 0, slots := 0, locals := 100 } : Room) s m args below meth c H locs 0 0 (MQ below (va_Qi post (mB D cs h0 s.heap.size) (fA h0 s.heap.size)) args s 0 0 (fA h0 s.heap.size)) (F0 m 18 ls [])) : ∀ (x1 : Int32) (x2 : Int32) (x3 : Int32) (h : HS) (H : Heap) (locs : List Loc) (ls : Array Slot), wj_Mod_isJoined_57 Z post K5 K18 v0 x1 x2 x3 h → lv_has ls 4 [(0, va_rf (some v0)), (1, .int x1), (2, .int x2), (3, .int x3)] → mR D cs (fA h0 s.heap.size) h s.heap H locs → W p l e ({ frames := 2, cells := 0, slots := 0, locals := 100 } : Room) s m args below meth c H locs 0 0 (MQ below (va_Qi post (mB D cs h0 s.heap.size) (fA h0 s.heap.size)) args s 0 0 (fA h0 s.heap.size)) (F0 m 57 ls []) := by
  obtain ⟨hx, hb, hr, hml, hown, hW, hlocks, hnm, hK, hZ⟩ := id C
  have hown : s.vm.findClass "NetJoinsModel" = some m.cls := hown
  have hA : ∀ q, s.heap.size ≤ q → fA h0 s.heap.size q := fun _ h => Or.inr h
  intro x1 x2 x3 h H locs ls hw hl hR
  unfold wj_Mod_isJoined_57 at hw
  obtain ⟨y1, ey1⟩ : ∃ y : Int32, y = x3 + (1 : Int32) := ⟨_, rfl⟩
  have hw := hw y1 ey1
  refine lv_iinc (v := y1) (lv' := [(3, .int y1), (0, va_rf (some v0)), (1, .int x1), (2, .int x2)]) hx hb d_Mod_isJoined_57 hl (k := 3) rfl (by rw [ey1]; rfl) (by decide) rfl (fun ls hl => ?_)
  refine lv_goto (tgt := 18) hx hb d_Mod_isJoined_60 (by decide) ?_
  exact hK18 x1 x2 y1 _ _ _ _ hw (lv_sub hl [1, 2, 3, 0] rfl) hR
set_option maxHeartbeats 4000000 in
set_option maxRecDepth 100000 in
theorem mn_Mod_isJoined_18 {D : va_G} {cs : CS} {Z : Nat → Nat} {h0 : HS} {p : Program} {l : Launch} {e : Env} {s : State} {m : MethodId} {args : Array Value} {below : List Frame} {meth : Method} {c : Code} {v0 : Nat} (C : mC D cs Z h0 y_Mod_isJoined c_Mod_isJoined 4 (some .boolean) p s m args meth c) (post : Int32 → HS → Prop) (K5 : Int32 × Int32 × HS → Prop) (hK5 : ∀ (x1 : Int32) (x2 : Int32) (h : HS) (H : Heap) (locs : List Loc) (ls : Array Slot), K5 (x1, x2, h) → lv_has ls 4 [(0, va_rf (some v0)), (1, .int x1), (2, .int x2)] → mR D cs (fA h0 s.heap.size) h s.heap H locs → W p l e ({ frames := 2, cells := 0, slots := 0, locals := 100 } : Room) s m args below meth c H locs 0 0 (MQ below (va_Qi post (mB D cs h0 s.heap.size) (fA h0 s.heap.size)) args s 0 0 (fA h0 s.heap.size)) (F0 m 5 ls [])) : ∀ (n : Nat) (x1 : Int32) (x2 : Int32) (x3 : Int32) (h : HS) (H : Heap) (locs : List Loc) (ls : Array Slot), lpF (wb_Mod_isJoined_18 Z post K5 v0) n (x1, x2, x3, h) → lv_has ls 4 [(0, va_rf (some v0)), (1, .int x1), (2, .int x2), (3, .int x3)] → mR D cs (fA h0 s.heap.size) h s.heap H locs → W p l e ({ frames := 2, cells := 0, slots := 0, locals := 100 } : Room) s m args below meth c H locs 0 0 (MQ below (va_Qi post (mB D cs h0 s.heap.size) (fA h0 s.heap.size)) args s 0 0 (fA h0 s.heap.size)) (F0 m 18 ls []) := by
  obtain ⟨hx, hb, hr, hml, hown, hW, hlocks, hnm, hK, hZ⟩ := id C
  have hown : s.vm.findClass "NetJoinsModel" = some m.cls := hown
  have hA : ∀ q, s.heap.size ≤ q → fA h0 s.heap.size q := fun _ h => Or.inr h
  intro n
  induction n with
  | zero => intro x1 x2 x3 h H locs ls hw; exact hw.elim
  | succ n ih =>
    intro x1 x2 x3 h H locs ls hw hl hR
    have hw : wb_Mod_isJoined_18 Z post K5 v0 (lpF (wb_Mod_isJoined_18 Z post K5 v0) n) (x1, x2, x3, h) := hw
    unfold wb_Mod_isJoined_18 at hw
    dsimp only at hw
    refine lv_iload_n hx hb d_Mod_isJoined_18 rfl (lv_at hl 3 rfl) ?_
    refine lv_sipush (v := 960) hx hb d_Mod_isJoined_19 (by decide) ?_
    refine lv_icmp_ge (tgt := 63) hx hb d_Mod_isJoined_22 (by decide) (fun c1 => ?_) (fun c1 => ?_)
    · have hw := hw.1 c1
      exact mn_Mod_isJoined_63 C post K5 hK5 x1 x2 _ _ _ _ hw (lv_sub hl [0, 1, 2] rfl) hR
    · have hw := hw.2 c1
      refine mx_aload_n (r := some v0) hx hb d_Mod_isJoined_25 rfl (lv_at hl 0 rfl) ?_
      obtain ⟨t2, hw⟩ := hw
      refine mx_get (ci := 8) (C := "NetJoinsModel") (T := F_Mod) (N := 33) hx hb hW hown hK.1 hR (a := v0) rfl t2 rfl i_Mod 27 2 (by decide) rfl kw_1162 (fun _ h9 => h9) d_Mod_isJoined_26 ?_
      refine lv_iload_n hx hb d_Mod_isJoined_29 rfl (lv_at hl 2 rfl) ?_
      obtain ⟨a3, ea3, t4, t4i, hw⟩ := hw
      refine mx_iald hx hb hK.1 hR (a := a3) ea3 t4 t4i d_Mod_isJoined_30 ?_
      refine lv_iconst (v := (-1)) hx hb d_Mod_isJoined_31 (by decide) ?_
      refine lv_icmp_eq (tgt := 63) hx hb d_Mod_isJoined_32 (by decide) (fun c5 => ?_) (fun c5 => ?_)
      · have hw := hw.1 c5
        exact mn_Mod_isJoined_63 C post K5 hK5 x1 x2 _ _ _ _ hw (lv_sub hl [0, 1, 2] rfl) hR
      · have hw := hw.2 c5
        refine lv_iload_n hx hb d_Mod_isJoined_35 rfl (lv_at hl 3 rfl) ?_
        refine lv_iload_n hx hb d_Mod_isJoined_36 rfl (lv_at hl 2 rfl) ?_
        refine lv_icmp_eq (tgt := 57) hx hb d_Mod_isJoined_37 (by decide) (fun c6 => ?_) (fun c6 => ?_)
        · have hw := hw.1 c6
          exact mn_Mod_isJoined_57 C post K5 (lpF (wb_Mod_isJoined_18 Z post K5 v0) n) hK5 ih x1 x2 x3 _ _ _ _ hw (lv_sub hl [0, 1, 2, 3] rfl) hR
        · have hw := hw.2 c6
          refine mx_aload_n (r := some v0) hx hb d_Mod_isJoined_40 rfl (lv_at hl 0 rfl) ?_
          obtain ⟨t7, hw⟩ := hw
          refine mx_get (ci := 8) (C := "NetJoinsModel") (T := F_Mod) (N := 33) hx hb hW hown hK.1 hR (a := v0) rfl t7 rfl i_Mod 27 2 (by decide) rfl kw_1162 (fun _ h9 => h9) d_Mod_isJoined_41 ?_
          refine lv_iload_n hx hb d_Mod_isJoined_44 rfl (lv_at hl 3 rfl) ?_
          obtain ⟨a8, ea8, t9, t9i, hw⟩ := hw
          refine mx_iald hx hb hK.1 hR (a := a8) ea8 t9 t9i d_Mod_isJoined_45 ?_
          refine mx_aload_n (r := some v0) hx hb d_Mod_isJoined_46 rfl (lv_at hl 0 rfl) ?_
          obtain ⟨t10, hw⟩ := hw
          refine mx_get (ci := 8) (C := "NetJoinsModel") (T := F_Mod) (N := 33) hx hb hW hown hK.1 hR (a := v0) rfl t10 rfl i_Mod 27 2 (by decide) rfl kw_1162 (fun _ h9 => h9) d_Mod_isJoined_47 ?_
          refine lv_iload_n hx hb d_Mod_isJoined_50 rfl (lv_at hl 2 rfl) ?_
          obtain ⟨a11, ea11, t12, t12i, hw⟩ := hw
          refine mx_iald hx hb hK.1 hR (a := a11) ea11 t12 t12i d_Mod_isJoined_51 ?_
          refine lv_icmp_ne (tgt := 57) hx hb d_Mod_isJoined_52 (by decide) (fun c13 => ?_) (fun c13 => ?_)
          · have hw := hw.1 c13
            exact mn_Mod_isJoined_57 C post K5 (lpF (wb_Mod_isJoined_18 Z post K5 v0) n) hK5 ih x1 x2 x3 _ _ _ _ hw (lv_sub hl [0, 1, 2, 3] rfl) hR
          · have hw := hw.2 c13
            refine lv_iconst (v := 1) hx hb d_Mod_isJoined_55 (by decide) ?_
            exact mx_zret hx hb hr hlocks hR (Or.inr rfl) hw d_Mod_isJoined_56
set_option maxHeartbeats 4000000 in
set_option maxRecDepth 100000 in
theorem mn_Mod_isJoined_5 {D : va_G} {cs : CS} {Z : Nat → Nat} {h0 : HS} {p : Program} {l : Launch} {e : Env} {s : State} {m : MethodId} {args : Array Value} {below : List Frame} {meth : Method} {c : Code} {v0 : Nat} (C : mC D cs Z h0 y_Mod_isJoined c_Mod_isJoined 4 (some .boolean) p s m args meth c) (post : Int32 → HS → Prop) : ∀ (n : Nat) (x1 : Int32) (x2 : Int32) (h : HS) (H : Heap) (locs : List Loc) (ls : Array Slot), lpF (wb_Mod_isJoined_5 Z post v0) n (x1, x2, h) → lv_has ls 4 [(0, va_rf (some v0)), (1, .int x1), (2, .int x2)] → mR D cs (fA h0 s.heap.size) h s.heap H locs → W p l e ({ frames := 2, cells := 0, slots := 0, locals := 100 } : Room) s m args below meth c H locs 0 0 (MQ below (va_Qi post (mB D cs h0 s.heap.size) (fA h0 s.heap.size)) args s 0 0 (fA h0 s.heap.size)) (F0 m 5 ls []) := by
  obtain ⟨hx, hb, hr, hml, hown, hW, hlocks, hnm, hK, hZ⟩ := id C
  have hown : s.vm.findClass "NetJoinsModel" = some m.cls := hown
  have hA : ∀ q, s.heap.size ≤ q → fA h0 s.heap.size q := fun _ h => Or.inr h
  intro n
  induction n with
  | zero => intro x1 x2 h H locs ls hw; exact hw.elim
  | succ n ih =>
    intro x1 x2 h H locs ls hw hl hR
    have hw : wb_Mod_isJoined_5 Z post v0 (lpF (wb_Mod_isJoined_5 Z post v0) n) (x1, x2, h) := hw
    unfold wb_Mod_isJoined_5 at hw
    dsimp only at hw
    refine lv_iload_n hx hb d_Mod_isJoined_5 rfl (lv_at hl 2 rfl) ?_
    refine lv_bipush (v := 16) hx hb d_Mod_isJoined_6 (by decide) ?_
    refine lv_iload_n hx hb d_Mod_isJoined_8 rfl (lv_at hl 1 rfl) ?_
    refine lv_imul hx hb d_Mod_isJoined_9 ?_
    refine lv_bipush (v := 16) hx hb d_Mod_isJoined_10 (by decide) ?_
    refine lv_iadd hx hb d_Mod_isJoined_12 ?_
    refine lv_icmp_ge (tgt := 69) hx hb d_Mod_isJoined_13 (by decide) (fun c1 => ?_) (fun c1 => ?_)
    · have hw := hw.1 c1
      refine lv_iconst (v := 0) hx hb d_Mod_isJoined_69 (by decide) ?_
      exact mx_zret hx hb hr hlocks hR (Or.inl rfl) hw d_Mod_isJoined_70
    · have hw := hw.2 c1
      refine lv_iconst (v := 0) hx hb d_Mod_isJoined_16 (by decide) ?_
      refine lv_istore_n (i := 3) (lv' := [(3, .int (0 : Int32)), (0, va_rf (some v0)), (1, .int x1), (2, .int x2)]) hx hb d_Mod_isJoined_17 rfl hl (by decide) rfl (fun ls hl => ?_)
      obtain ⟨n9, hw⟩ := hw
      exact mn_Mod_isJoined_18 C post (lpF (wb_Mod_isJoined_5 Z post v0) n) ih n9 x1 x2 (0 : Int32) _ _ _ _ hw (lv_sub hl [1, 2, 3, 0] rfl) hR
set_option maxHeartbeats 4000000 in
set_option maxRecDepth 100000 in
theorem mt_Mod_isJoined (l : Launch) (D : va_G) (cs : CS) (Z : Nat → Nat) (sz : Nat) {post : Int32 → HS → Prop} {h : HS} {v0 : Nat} {x1 : Int32} (hw : wp_Mod_isJoined Z post h v0 x1) : Met l y_Mod_isJoined (Cond.code y_Mod_isJoined c_Mod_isJoined 4 (some .boolean) :: WA) ({ frames := 2, cells := 0, slots := 0, locals := 100 } : Room) (mPc D cs Z h sz [va_rf (some v0), .int x1]) (va_Qi post (mB D cs h sz) (fA h sz)) 0 0 (fA h sz) := by
  refine mx_met (fun sz => va_Qi post (mB D cs h sz) (fA h sz)) (by decide) (by simp [lg_sl, mx_rf_cat, cat_i, cat_l]) ?_
  intro p e s m args below meth c C hR ls hl
  have hl : lv_has ls 4 [(0, va_rf (some v0)), (1, .int x1)] := hl
  obtain ⟨hx, hb, hr, hml, hown, hW, hlocks, hnm, hK, hZ⟩ := id C
  have hown : s.vm.findClass "NetJoinsModel" = some m.cls := hown
  have hA : ∀ q, s.heap.size ≤ q → fA h s.heap.size q := fun _ h => Or.inr h
  unfold wp_Mod_isJoined at hw
  refine lv_bipush (v := 16) hx hb d_Mod_isJoined_0 (by decide) ?_
  refine lv_iload_n hx hb d_Mod_isJoined_2 rfl (lv_at hl 1 rfl) ?_
  refine lv_imul hx hb d_Mod_isJoined_3 ?_
  refine lv_topi (fun y1 ey1 => ?_)
  have hw := hw y1 ey1
  refine lv_istore_n (i := 2) (lv' := [(2, .int y1), (0, va_rf (some v0)), (1, .int x1)]) hx hb d_Mod_isJoined_4 rfl hl (by decide) rfl (fun ls hl => ?_)
  obtain ⟨n9, hw⟩ := hw
  exact mn_Mod_isJoined_5 C post n9 x1 y1 _ _ _ _ hw (lv_sub hl [1, 2, 0] rfl) hR
set_option maxHeartbeats 4000000 in
set_option maxRecDepth 100000 in
theorem mn_Mod_told_175 {D : va_G} {cs : CS} {Z : Nat → Nat} {h0 : HS} {p : Program} {l : Launch} {e : Env} {s : State} {m : MethodId} {args : Array Value} {below : List Frame} {meth : Method} {c : Code} {v0 : Nat} (C : mC D cs Z h0 y_Mod_told c_Mod_told 6 (some .int) p s m args meth c) (post : Int32 → HS → Prop) (K135 : Int32 × Int32 × HS → Prop) (hK135 : ∀ (x2 : Int32) (x3 : Int32) (h : HS) (H : Heap) (locs : List Loc) (ls : Array Slot), K135 (x2, x3, h) → lv_has ls 6 [(0, va_rf (some v0)), (2, .int x2), (3, .int x3)] → mR D cs (fA h0 s.heap.size) h s.heap H locs → W p l e ({ frames := 5, cells := 0, slots := 0, locals := 169 } : Room) s m args below meth c H locs 0 0 (MQ below (va_Qi post (mB D cs h0 s.heap.size) (fA h0 s.heap.size)) args s 0 0 (fA h0 s.heap.size)) (F0 m 135 ls [])) : ∀ (x2 : Int32) (x3 : Int32) (h : HS) (H : Heap) (locs : List Loc) (ls : Array Slot), wj_Mod_told_175 Z post K135 v0 x2 x3 h → lv_has ls 6 [(0, va_rf (some v0)), (2, .int x2), (3, .int x3)] → mR D cs (fA h0 s.heap.size) h s.heap H locs → W p l e ({ frames := 5, cells := 0, slots := 0, locals := 169 } : Room) s m args below meth c H locs 0 0 (MQ below (va_Qi post (mB D cs h0 s.heap.size) (fA h0 s.heap.size)) args s 0 0 (fA h0 s.heap.size)) (F0 m 175 ls []) := by
  obtain ⟨hx, hb, hr, hml, hown, hW, hlocks, hnm, hK, hZ⟩ := id C
  have hown : s.vm.findClass "NetJoinsModel" = some m.cls := hown
  have hA : ∀ q, s.heap.size ≤ q → fA h0 s.heap.size q := fun _ h => Or.inr h
  intro x2 x3 h H locs ls hw hl hR
  unfold wj_Mod_told_175 at hw
  obtain ⟨y1, ey1⟩ : ∃ y : Int32, y = x3 + (1 : Int32) := ⟨_, rfl⟩
  have hw := hw y1 ey1
  refine lv_iinc (v := y1) (lv' := [(3, .int y1), (0, va_rf (some v0)), (2, .int x2)]) hx hb d_Mod_told_175 hl (k := 2) rfl (by rw [ey1]; rfl) (by decide) rfl (fun ls hl => ?_)
  refine lv_goto (tgt := 135) hx hb d_Mod_told_178 (by decide) ?_
  exact hK135 x2 y1 _ _ _ _ hw (lv_sub hl [1, 2, 0] rfl) hR
set_option maxHeartbeats 4000000 in
set_option maxRecDepth 100000 in
theorem mn_Mod_told_135 {D : va_G} {cs : CS} {Z : Nat → Nat} {h0 : HS} {p : Program} {l : Launch} {e : Env} {s : State} {m : MethodId} {args : Array Value} {below : List Frame} {meth : Method} {c : Code} {v0 : Nat} (C : mC D cs Z h0 y_Mod_told c_Mod_told 6 (some .int) p s m args meth c) (post : Int32 → HS → Prop) : ∀ (n : Nat) (x2 : Int32) (x3 : Int32) (h : HS) (H : Heap) (locs : List Loc) (ls : Array Slot), lpF (wb_Mod_told_135 Z post v0) n (x2, x3, h) → lv_has ls 6 [(0, va_rf (some v0)), (2, .int x2), (3, .int x3)] → mR D cs (fA h0 s.heap.size) h s.heap H locs → W p l e ({ frames := 5, cells := 0, slots := 0, locals := 169 } : Room) s m args below meth c H locs 0 0 (MQ below (va_Qi post (mB D cs h0 s.heap.size) (fA h0 s.heap.size)) args s 0 0 (fA h0 s.heap.size)) (F0 m 135 ls []) := by
  obtain ⟨hx, hb, hr, hml, hown, hW, hlocks, hnm, hK, hZ⟩ := id C
  have hown : s.vm.findClass "NetJoinsModel" = some m.cls := hown
  have hA : ∀ q, s.heap.size ≤ q → fA h0 s.heap.size q := fun _ h => Or.inr h
  intro n
  induction n with
  | zero => intro x2 x3 h H locs ls hw; exact hw.elim
  | succ n ih =>
    intro x2 x3 h H locs ls hw hl hR
    have hw : wb_Mod_told_135 Z post v0 (lpF (wb_Mod_told_135 Z post v0) n) (x2, x3, h) := hw
    unfold wb_Mod_told_135 at hw
    dsimp only at hw
    refine lv_iload_n hx hb d_Mod_told_135 rfl (lv_at hl 2 rfl) ?_
    refine mx_aload_n (r := some v0) hx hb d_Mod_told_136 rfl (lv_at hl 0 rfl) ?_
    obtain ⟨t1, hw⟩ := hw
    refine mx_get (ci := 8) (C := "NetJoinsModel") (T := F_Mod) (N := 33) hx hb hW hown hK.1 hR (a := v0) rfl t1 rfl i_Mod 15 0 (by decide) rfl kw_1150 (fun _ h9 => h9) d_Mod_told_137 ?_
    refine lv_icmp_ge (tgt := 181) hx hb d_Mod_told_140 (by decide) (fun c2 => ?_) (fun c2 => ?_)
    · have hw := hw.1 c2
      refine lv_iconst (v := (-1)) hx hb d_Mod_told_181 (by decide) ?_
      exact mx_iret hx hb hr hlocks hR hw d_Mod_told_182
    · have hw := hw.2 c2
      refine mx_aload_n (r := some v0) hx hb d_Mod_told_143 rfl (lv_at hl 0 rfl) ?_
      obtain ⟨t3, hw⟩ := hw
      refine mx_get (ci := 8) (C := "NetJoinsModel") (T := F_Mod) (N := 33) hx hb hW hown hK.1 hR (a := v0) rfl t3 rfl i_Mod 19 2 (by decide) rfl kw_1154 (fun _ h9 => h9) d_Mod_told_144 ?_
      refine lv_iload_n hx hb d_Mod_told_147 rfl (lv_at hl 2 rfl) ?_
      obtain ⟨a4, ea4, t5, t5i, hw⟩ := hw
      refine mx_zald hx hb hK.1 hR (a := a4) ea4 t5 t5i d_Mod_told_148 ?_
      refine lv_if_eq (tgt := 175) hx hb d_Mod_told_149 (by decide) (fun c6 => ?_) (fun c6 => ?_)
      · have hw := hw.1 c6
        exact mn_Mod_told_175 C post (lpF (wb_Mod_told_135 Z post v0) n) ih x2 x3 _ _ _ _ hw (lv_sub hl [0, 1, 2] rfl) hR
      · have hw := hw.2 c6
        refine mx_aload_n (r := some v0) hx hb d_Mod_told_152 rfl (lv_at hl 0 rfl) ?_
        refine lv_iload_n hx hb d_Mod_told_153 rfl (lv_at hl 2 rfl) ?_
        obtain ⟨t9, hw⟩ := hw
        refine mx_calli (va_runV (b := v0) (As := [.int x3]) (rest := []) ⟨hx, hb, hml, hown, hW⟩ (mt_Mod_isJoined l D cs Z _ hw) (mx_cwV hW ok_Mod_isJoined kw_1393 rfl rfl ⟨Nat.le_of_ble_eq_true rfl, Nat.le_of_ble_eq_true rfl⟩) (mx_preV hK hZ hA hR (ci := 8) rfl t9) rfl rfl hl.1 rfl (lv_room (Nat.le_of_ble_eq_true rfl)) d_Mod_told_154 ⟨Nat.le_of_ble_eq_true rfl, Nat.le_of_ble_eq_true rfl⟩) hR hA (fun r7 h8 H locs hw hR => ?_)
        try dsimp only at hw
        refine lv_if_ne (tgt := 163) hx hb d_Mod_told_157 (by decide) (fun c10 => ?_) (fun c10 => ?_)
        · have hw := hw.1 c10
          refine lv_iload_n hx hb d_Mod_told_163 rfl (lv_at hl 1 rfl) ?_
          refine lv_if_ne (tgt := 172) hx hb d_Mod_told_164 (by decide) (fun c11 => ?_) (fun c11 => ?_)
          · have hw := hw.1 c11
            obtain ⟨y12, ey12⟩ : ∃ y : Int32, y = x2 + (-1 : Int32) := ⟨_, rfl⟩
            have hw := hw y12 ey12
            refine lv_iinc (v := y12) (lv' := [(2, .int y12), (0, va_rf (some v0)), (3, .int x3)]) hx hb d_Mod_told_172 hl (k := 1) rfl (by rw [ey12]; rfl) (by decide) rfl (fun ls hl => ?_)
            exact mn_Mod_told_175 C post (lpF (wb_Mod_told_135 Z post v0) n) ih y12 x3 _ _ _ _ hw (lv_sub hl [1, 0, 2] rfl) hR
          · have hw := hw.2 c11
            refine lv_ldc hx hb hown (hW _ kw_1397) d_Mod_told_167 ?_
            refine lv_iload_n hx hb d_Mod_told_169 rfl (lv_at hl 2 rfl) ?_
            refine lv_iadd hx hb d_Mod_told_170 ?_
            exact mx_iret hx hb hr hlocks hR hw d_Mod_told_171
        · have hw := hw.2 c10
          refine lv_goto (tgt := 175) hx hb d_Mod_told_160 (by decide) ?_
          exact mn_Mod_told_175 C post (lpF (wb_Mod_told_135 Z post v0) n) ih x2 x3 _ _ _ _ hw (lv_sub hl [0, 1, 2] rfl) hR
set_option maxHeartbeats 4000000 in
set_option maxRecDepth 100000 in
theorem mn_Mod_told_127 {D : va_G} {cs : CS} {Z : Nat → Nat} {h0 : HS} {p : Program} {l : Launch} {e : Env} {s : State} {m : MethodId} {args : Array Value} {below : List Frame} {meth : Method} {c : Code} {v0 : Nat} (C : mC D cs Z h0 y_Mod_told c_Mod_told 6 (some .int) p s m args meth c) (post : Int32 → HS → Prop) (K96 : Int32 × Int32 × HS → Prop) (hK96 : ∀ (x2 : Int32) (x3 : Int32) (h : HS) (H : Heap) (locs : List Loc) (ls : Array Slot), K96 (x2, x3, h) → lv_has ls 6 [(0, va_rf (some v0)), (2, .int x2), (3, .int x3)] → mR D cs (fA h0 s.heap.size) h s.heap H locs → W p l e ({ frames := 5, cells := 0, slots := 0, locals := 169 } : Room) s m args below meth c H locs 0 0 (MQ below (va_Qi post (mB D cs h0 s.heap.size) (fA h0 s.heap.size)) args s 0 0 (fA h0 s.heap.size)) (F0 m 96 ls [])) : ∀ (x2 : Int32) (x3 : Int32) (h : HS) (H : Heap) (locs : List Loc) (ls : Array Slot), wj_Mod_told_127 Z post K96 v0 x2 x3 h → lv_has ls 6 [(0, va_rf (some v0)), (2, .int x2), (3, .int x3)] → mR D cs (fA h0 s.heap.size) h s.heap H locs → W p l e ({ frames := 5, cells := 0, slots := 0, locals := 169 } : Room) s m args below meth c H locs 0 0 (MQ below (va_Qi post (mB D cs h0 s.heap.size) (fA h0 s.heap.size)) args s 0 0 (fA h0 s.heap.size)) (F0 m 127 ls []) := by
  obtain ⟨hx, hb, hr, hml, hown, hW, hlocks, hnm, hK, hZ⟩ := id C
  have hown : s.vm.findClass "NetJoinsModel" = some m.cls := hown
  have hA : ∀ q, s.heap.size ≤ q → fA h0 s.heap.size q := fun _ h => Or.inr h
  intro x2 x3 h H locs ls hw hl hR
  unfold wj_Mod_told_127 at hw
  obtain ⟨y1, ey1⟩ : ∃ y : Int32, y = x3 + (1 : Int32) := ⟨_, rfl⟩
  have hw := hw y1 ey1
  refine lv_iinc (v := y1) (lv' := [(3, .int y1), (0, va_rf (some v0)), (2, .int x2)]) hx hb d_Mod_told_127 hl (k := 2) rfl (by rw [ey1]; rfl) (by decide) rfl (fun ls hl => ?_)
  refine lv_goto (tgt := 96) hx hb d_Mod_told_130 (by decide) ?_
  exact hK96 x2 y1 _ _ _ _ hw (lv_sub hl [1, 2, 0] rfl) hR
set_option maxHeartbeats 4000000 in
set_option maxRecDepth 100000 in
theorem mn_Mod_told_96 {D : va_G} {cs : CS} {Z : Nat → Nat} {h0 : HS} {p : Program} {l : Launch} {e : Env} {s : State} {m : MethodId} {args : Array Value} {below : List Frame} {meth : Method} {c : Code} {v0 : Nat} (C : mC D cs Z h0 y_Mod_told c_Mod_told 6 (some .int) p s m args meth c) (post : Int32 → HS → Prop) : ∀ (n : Nat) (x2 : Int32) (x3 : Int32) (h : HS) (H : Heap) (locs : List Loc) (ls : Array Slot), lpF (wb_Mod_told_96 Z post v0) n (x2, x3, h) → lv_has ls 6 [(0, va_rf (some v0)), (2, .int x2), (3, .int x3)] → mR D cs (fA h0 s.heap.size) h s.heap H locs → W p l e ({ frames := 5, cells := 0, slots := 0, locals := 169 } : Room) s m args below meth c H locs 0 0 (MQ below (va_Qi post (mB D cs h0 s.heap.size) (fA h0 s.heap.size)) args s 0 0 (fA h0 s.heap.size)) (F0 m 96 ls []) := by
  obtain ⟨hx, hb, hr, hml, hown, hW, hlocks, hnm, hK, hZ⟩ := id C
  have hown : s.vm.findClass "NetJoinsModel" = some m.cls := hown
  have hA : ∀ q, s.heap.size ≤ q → fA h0 s.heap.size q := fun _ h => Or.inr h
  intro n
  induction n with
  | zero => intro x2 x3 h H locs ls hw; exact hw.elim
  | succ n ih =>
    intro x2 x3 h H locs ls hw hl hR
    have hw : wb_Mod_told_96 Z post v0 (lpF (wb_Mod_told_96 Z post v0) n) (x2, x3, h) := hw
    unfold wb_Mod_told_96 at hw
    dsimp only at hw
    refine lv_iload_n hx hb d_Mod_told_96 rfl (lv_at hl 2 rfl) ?_
    refine mx_aload_n (r := some v0) hx hb d_Mod_told_97 rfl (lv_at hl 0 rfl) ?_
    obtain ⟨t1, hw⟩ := hw
    refine mx_get (ci := 8) (C := "NetJoinsModel") (T := F_Mod) (N := 33) hx hb hW hown hK.1 hR (a := v0) rfl t1 rfl i_Mod 11 0 (by decide) rfl kw_1146 (fun _ h9 => h9) d_Mod_told_98 ?_
    refine lv_icmp_ge (tgt := 133) hx hb d_Mod_told_101 (by decide) (fun c2 => ?_) (fun c2 => ?_)
    · have hw := hw.1 c2
      refine lv_iconst (v := 0) hx hb d_Mod_told_133 (by decide) ?_
      refine lv_istore_n (i := 3) (lv' := [(3, .int (0 : Int32)), (0, va_rf (some v0)), (2, .int x2)]) hx hb d_Mod_told_134 rfl hl (by decide) rfl (fun ls hl => ?_)
      obtain ⟨n9, hw⟩ := hw
      exact mn_Mod_told_135 C post n9 x2 (0 : Int32) _ _ _ _ hw (lv_sub hl [1, 2, 0] rfl) hR
    · have hw := hw.2 c2
      refine mx_aload_n (r := some v0) hx hb d_Mod_told_104 rfl (lv_at hl 0 rfl) ?_
      refine lv_iload_n hx hb d_Mod_told_105 rfl (lv_at hl 2 rfl) ?_
      obtain ⟨t5, hw⟩ := hw
      refine mx_calli (va_runV (b := v0) (As := [.int x3]) (rest := []) ⟨hx, hb, hml, hown, hW⟩ (mt_Mod_isBare l D cs Z _ hw) (mx_cwV hW ok_Mod_isBare kw_1388 rfl rfl ⟨Nat.le_of_ble_eq_true rfl, Nat.le_of_ble_eq_true rfl⟩) (mx_preV hK hZ hA hR (ci := 8) rfl t5) rfl rfl hl.1 rfl (lv_room (Nat.le_of_ble_eq_true rfl)) d_Mod_told_106 ⟨Nat.le_of_ble_eq_true rfl, Nat.le_of_ble_eq_true rfl⟩) hR hA (fun r3 h4 H locs hw hR => ?_)
      try dsimp only at hw
      refine lv_if_ne (tgt := 115) hx hb d_Mod_told_109 (by decide) (fun c6 => ?_) (fun c6 => ?_)
      · have hw := hw.1 c6
        refine lv_iload_n hx hb d_Mod_told_115 rfl (lv_at hl 1 rfl) ?_
        refine lv_if_ne (tgt := 124) hx hb d_Mod_told_116 (by decide) (fun c7 => ?_) (fun c7 => ?_)
        · have hw := hw.1 c7
          obtain ⟨y8, ey8⟩ : ∃ y : Int32, y = x2 + (-1 : Int32) := ⟨_, rfl⟩
          have hw := hw y8 ey8
          refine lv_iinc (v := y8) (lv' := [(2, .int y8), (0, va_rf (some v0)), (3, .int x3)]) hx hb d_Mod_told_124 hl (k := 1) rfl (by rw [ey8]; rfl) (by decide) rfl (fun ls hl => ?_)
          exact mn_Mod_told_127 C post (lpF (wb_Mod_told_96 Z post v0) n) ih y8 x3 _ _ _ _ hw (lv_sub hl [1, 0, 2] rfl) hR
        · have hw := hw.2 c7
          refine lv_ldc hx hb hown (hW _ kw_1392) d_Mod_told_119 ?_
          refine lv_iload_n hx hb d_Mod_told_121 rfl (lv_at hl 2 rfl) ?_
          refine lv_iadd hx hb d_Mod_told_122 ?_
          exact mx_iret hx hb hr hlocks hR hw d_Mod_told_123
      · have hw := hw.2 c6
        refine lv_goto (tgt := 127) hx hb d_Mod_told_112 (by decide) ?_
        exact mn_Mod_told_127 C post (lpF (wb_Mod_told_96 Z post v0) n) ih x2 x3 _ _ _ _ hw (lv_sub hl [0, 1, 2] rfl) hR
set_option maxHeartbeats 4000000 in
set_option maxRecDepth 100000 in
theorem mn_Mod_told_88 {D : va_G} {cs : CS} {Z : Nat → Nat} {h0 : HS} {p : Program} {l : Launch} {e : Env} {s : State} {m : MethodId} {args : Array Value} {below : List Frame} {meth : Method} {c : Code} {v0 : Nat} (C : mC D cs Z h0 y_Mod_told c_Mod_told 6 (some .int) p s m args meth c) (post : Int32 → HS → Prop) (K15 : Int32 × Int32 × HS → Prop) (hK15 : ∀ (x2 : Int32) (x3 : Int32) (h : HS) (H : Heap) (locs : List Loc) (ls : Array Slot), K15 (x2, x3, h) → lv_has ls 6 [(0, va_rf (some v0)), (2, .int x2), (3, .int x3)] → mR D cs (fA h0 s.heap.size) h s.heap H locs → W p l e ({ frames := 5, cells := 0, slots := 0, locals := 169 } : Room) s m args below meth c H locs 0 0 (MQ below (va_Qi post (mB D cs h0 s.heap.size) (fA h0 s.heap.size)) args s 0 0 (fA h0 s.heap.size)) (F0 m 15 ls [])) : ∀ (x2 : Int32) (x3 : Int32) (h : HS) (H : Heap) (locs : List Loc) (ls : Array Slot), wj_Mod_told_88 Z post K15 v0 x2 x3 h → lv_has ls 6 [(0, va_rf (some v0)), (2, .int x2), (3, .int x3)] → mR D cs (fA h0 s.heap.size) h s.heap H locs → W p l e ({ frames := 5, cells := 0, slots := 0, locals := 169 } : Room) s m args below meth c H locs 0 0 (MQ below (va_Qi post (mB D cs h0 s.heap.size) (fA h0 s.heap.size)) args s 0 0 (fA h0 s.heap.size)) (F0 m 88 ls []) := by
  obtain ⟨hx, hb, hr, hml, hown, hW, hlocks, hnm, hK, hZ⟩ := id C
  have hown : s.vm.findClass "NetJoinsModel" = some m.cls := hown
  have hA : ∀ q, s.heap.size ≤ q → fA h0 s.heap.size q := fun _ h => Or.inr h
  intro x2 x3 h H locs ls hw hl hR
  unfold wj_Mod_told_88 at hw
  obtain ⟨y1, ey1⟩ : ∃ y : Int32, y = x3 + (1 : Int32) := ⟨_, rfl⟩
  have hw := hw y1 ey1
  refine lv_iinc (v := y1) (lv' := [(3, .int y1), (0, va_rf (some v0)), (2, .int x2)]) hx hb d_Mod_told_88 hl (k := 2) rfl (by rw [ey1]; rfl) (by decide) rfl (fun ls hl => ?_)
  refine lv_goto (tgt := 15) hx hb d_Mod_told_91 (by decide) ?_
  exact hK15 x2 y1 _ _ _ _ hw (lv_sub hl [1, 2, 0] rfl) hR
set_option maxHeartbeats 4000000 in
set_option maxRecDepth 100000 in
theorem mn_Mod_told_82 {D : va_G} {cs : CS} {Z : Nat → Nat} {h0 : HS} {p : Program} {l : Launch} {e : Env} {s : State} {m : MethodId} {args : Array Value} {below : List Frame} {meth : Method} {c : Code} {v0 : Nat} (C : mC D cs Z h0 y_Mod_told c_Mod_told 6 (some .int) p s m args meth c) (post : Int32 → HS → Prop) (K15 : Int32 × Int32 × HS → Prop) (K33 : Int32 × Int32 × Int32 × Int32 × HS → Prop) (hK15 : ∀ (x2 : Int32) (x3 : Int32) (h : HS) (H : Heap) (locs : List Loc) (ls : Array Slot), K15 (x2, x3, h) → lv_has ls 6 [(0, va_rf (some v0)), (2, .int x2), (3, .int x3)] → mR D cs (fA h0 s.heap.size) h s.heap H locs → W p l e ({ frames := 5, cells := 0, slots := 0, locals := 169 } : Room) s m args below meth c H locs 0 0 (MQ below (va_Qi post (mB D cs h0 s.heap.size) (fA h0 s.heap.size)) args s 0 0 (fA h0 s.heap.size)) (F0 m 15 ls [])) (hK33 : ∀ (x2 : Int32) (x3 : Int32) (x4 : Int32) (x5 : Int32) (h : HS) (H : Heap) (locs : List Loc) (ls : Array Slot), K33 (x2, x3, x4, x5, h) → lv_has ls 6 [(0, va_rf (some v0)), (2, .int x2), (3, .int x3), (4, .int x4), (5, .int x5)] → mR D cs (fA h0 s.heap.size) h s.heap H locs → W p l e ({ frames := 5, cells := 0, slots := 0, locals := 169 } : Room) s m args below meth c H locs 0 0 (MQ below (va_Qi post (mB D cs h0 s.heap.size) (fA h0 s.heap.size)) args s 0 0 (fA h0 s.heap.size)) (F0 m 33 ls [])) : ∀ (x2 : Int32) (x3 : Int32) (x4 : Int32) (x5 : Int32) (h : HS) (H : Heap) (locs : List Loc) (ls : Array Slot), wj_Mod_told_82 Z post K15 K33 v0 x2 x3 x4 x5 h → lv_has ls 6 [(0, va_rf (some v0)), (2, .int x2), (3, .int x3), (4, .int x4), (5, .int x5)] → mR D cs (fA h0 s.heap.size) h s.heap H locs → W p l e ({ frames := 5, cells := 0, slots := 0, locals := 169 } : Room) s m args below meth c H locs 0 0 (MQ below (va_Qi post (mB D cs h0 s.heap.size) (fA h0 s.heap.size)) args s 0 0 (fA h0 s.heap.size)) (F0 m 82 ls []) := by
  obtain ⟨hx, hb, hr, hml, hown, hW, hlocks, hnm, hK, hZ⟩ := id C
  have hown : s.vm.findClass "NetJoinsModel" = some m.cls := hown
  have hA : ∀ q, s.heap.size ≤ q → fA h0 s.heap.size q := fun _ h => Or.inr h
  intro x2 x3 x4 x5 h H locs ls hw hl hR
  unfold wj_Mod_told_82 at hw
  obtain ⟨y1, ey1⟩ : ∃ y : Int32, y = x5 + (1 : Int32) := ⟨_, rfl⟩
  have hw := hw y1 ey1
  refine lv_iinc (v := y1) (lv' := [(5, .int y1), (0, va_rf (some v0)), (2, .int x2), (3, .int x3), (4, .int x4)]) hx hb d_Mod_told_82 hl (k := 4) rfl (by rw [ey1]; rfl) (by decide) rfl (fun ls hl => ?_)
  refine lv_goto (tgt := 33) hx hb d_Mod_told_85 (by decide) ?_
  exact hK33 x2 x3 x4 y1 _ _ _ _ hw (lv_sub hl [1, 2, 3, 4, 0] rfl) hR
set_option maxHeartbeats 4000000 in
set_option maxRecDepth 100000 in
theorem mn_Mod_told_33 {D : va_G} {cs : CS} {Z : Nat → Nat} {h0 : HS} {p : Program} {l : Launch} {e : Env} {s : State} {m : MethodId} {args : Array Value} {below : List Frame} {meth : Method} {c : Code} {v0 : Nat} (C : mC D cs Z h0 y_Mod_told c_Mod_told 6 (some .int) p s m args meth c) (post : Int32 → HS → Prop) (K15 : Int32 × Int32 × HS → Prop) (hK15 : ∀ (x2 : Int32) (x3 : Int32) (h : HS) (H : Heap) (locs : List Loc) (ls : Array Slot), K15 (x2, x3, h) → lv_has ls 6 [(0, va_rf (some v0)), (2, .int x2), (3, .int x3)] → mR D cs (fA h0 s.heap.size) h s.heap H locs → W p l e ({ frames := 5, cells := 0, slots := 0, locals := 169 } : Room) s m args below meth c H locs 0 0 (MQ below (va_Qi post (mB D cs h0 s.heap.size) (fA h0 s.heap.size)) args s 0 0 (fA h0 s.heap.size)) (F0 m 15 ls [])) : ∀ (n : Nat) (x2 : Int32) (x3 : Int32) (x4 : Int32) (x5 : Int32) (h : HS) (H : Heap) (locs : List Loc) (ls : Array Slot), lpF (wb_Mod_told_33 Z post K15 v0) n (x2, x3, x4, x5, h) → lv_has ls 6 [(0, va_rf (some v0)), (2, .int x2), (3, .int x3), (4, .int x4), (5, .int x5)] → mR D cs (fA h0 s.heap.size) h s.heap H locs → W p l e ({ frames := 5, cells := 0, slots := 0, locals := 169 } : Room) s m args below meth c H locs 0 0 (MQ below (va_Qi post (mB D cs h0 s.heap.size) (fA h0 s.heap.size)) args s 0 0 (fA h0 s.heap.size)) (F0 m 33 ls []) := by
  obtain ⟨hx, hb, hr, hml, hown, hW, hlocks, hnm, hK, hZ⟩ := id C
  have hown : s.vm.findClass "NetJoinsModel" = some m.cls := hown
  have hA : ∀ q, s.heap.size ≤ q → fA h0 s.heap.size q := fun _ h => Or.inr h
  intro n
  induction n with
  | zero => intro x2 x3 x4 x5 h H locs ls hw; exact hw.elim
  | succ n ih =>
    intro x2 x3 x4 x5 h H locs ls hw hl hR
    have hw : wb_Mod_told_33 Z post K15 v0 (lpF (wb_Mod_told_33 Z post K15 v0) n) (x2, x3, x4, x5, h) := hw
    unfold wb_Mod_told_33 at hw
    dsimp only at hw
    refine lv_iload hx hb d_Mod_told_33 (lv_at hl 4 rfl) ?_
    refine lv_sipush (v := 1000) hx hb d_Mod_told_35 (by decide) ?_
    refine lv_icmp_ge (tgt := 88) hx hb d_Mod_told_38 (by decide) (fun c1 => ?_) (fun c1 => ?_)
    · have hw := hw.1 c1
      exact mn_Mod_told_88 C post K15 hK15 x2 x3 _ _ _ _ hw (lv_sub hl [0, 1, 2] rfl) hR
    · have hw := hw.2 c1
      refine lv_iload hx hb d_Mod_told_41 (lv_at hl 3 rfl) ?_
      refine lv_if_lt (tgt := 88) hx hb d_Mod_told_43 (by decide) (fun c2 => ?_) (fun c2 => ?_)
      · have hw := hw.1 c2
        exact mn_Mod_told_88 C post K15 hK15 x2 x3 _ _ _ _ hw (lv_sub hl [0, 1, 2] rfl) hR
      · have hw := hw.2 c2
        refine lv_iload hx hb d_Mod_told_46 (lv_at hl 4 rfl) ?_
        refine lv_iload hx hb d_Mod_told_48 (lv_at hl 3 rfl) ?_
        refine lv_icmp_eq (tgt := 82) hx hb d_Mod_told_50 (by decide) (fun c3 => ?_) (fun c3 => ?_)
        · have hw := hw.1 c3
          exact mn_Mod_told_82 C post K15 (lpF (wb_Mod_told_33 Z post K15 v0) n) hK15 ih x2 x3 x4 x5 _ _ _ _ hw (lv_sub hl [0, 1, 2, 3, 4] rfl) hR
        · have hw := hw.2 c3
          refine mx_aload_n (r := some v0) hx hb d_Mod_told_53 rfl (lv_at hl 0 rfl) ?_
          refine lv_iload_n hx hb d_Mod_told_54 rfl (lv_at hl 2 rfl) ?_
          refine lv_iload hx hb d_Mod_told_55 (lv_at hl 4 rfl) ?_
          obtain ⟨t6, hw⟩ := hw
          refine mx_calli (va_runV (b := v0) (As := [.int x3, .int x5]) (rest := []) ⟨hx, hb, hml, hown, hW⟩ (mt_Mod_hasName l D cs Z _ hw) (mx_cwV hW ok_Mod_hasName kw_1376 rfl rfl ⟨Nat.le_of_ble_eq_true rfl, Nat.le_of_ble_eq_true rfl⟩) (mx_preV hK hZ hA hR (ci := 8) rfl t6) rfl rfl hl.1 rfl (lv_room (Nat.le_of_ble_eq_true rfl)) d_Mod_told_57 ⟨Nat.le_of_ble_eq_true rfl, Nat.le_of_ble_eq_true rfl⟩) hR hA (fun r4 h5 H locs hw hR => ?_)
          try dsimp only at hw
          refine lv_if_ne (tgt := 66) hx hb d_Mod_told_60 (by decide) (fun c7 => ?_) (fun c7 => ?_)
          · have hw := hw.1 c7
            refine lv_iload_n hx hb d_Mod_told_66 rfl (lv_at hl 1 rfl) ?_
            refine lv_if_ne (tgt := 79) hx hb d_Mod_told_67 (by decide) (fun c8 => ?_) (fun c8 => ?_)
            · have hw := hw.1 c8
              obtain ⟨y9, ey9⟩ : ∃ y : Int32, y = x2 + (-1 : Int32) := ⟨_, rfl⟩
              have hw := hw y9 ey9
              refine lv_iinc (v := y9) (lv' := [(2, .int y9), (0, va_rf (some v0)), (3, .int x3), (4, .int x4), (5, .int x5)]) hx hb d_Mod_told_79 hl (k := 1) rfl (by rw [ey9]; rfl) (by decide) rfl (fun ls hl => ?_)
              exact mn_Mod_told_82 C post K15 (lpF (wb_Mod_told_33 Z post K15 v0) n) hK15 ih y9 x3 x4 x5 _ _ _ _ hw (lv_sub hl [1, 0, 2, 3, 4] rfl) hR
            · have hw := hw.2 c8
              refine lv_sipush (v := 1000) hx hb d_Mod_told_70 (by decide) ?_
              refine lv_iload_n hx hb d_Mod_told_73 rfl (lv_at hl 2 rfl) ?_
              refine lv_imul hx hb d_Mod_told_74 ?_
              refine lv_iload hx hb d_Mod_told_75 (lv_at hl 4 rfl) ?_
              refine lv_iadd hx hb d_Mod_told_77 ?_
              exact mx_iret hx hb hr hlocks hR hw d_Mod_told_78
          · have hw := hw.2 c7
            refine lv_goto (tgt := 82) hx hb d_Mod_told_63 (by decide) ?_
            exact mn_Mod_told_82 C post K15 (lpF (wb_Mod_told_33 Z post K15 v0) n) hK15 ih x2 x3 x4 x5 _ _ _ _ hw (lv_sub hl [0, 1, 2, 3, 4] rfl) hR
set_option maxHeartbeats 4000000 in
set_option maxRecDepth 100000 in
theorem mn_Mod_told_15 {D : va_G} {cs : CS} {Z : Nat → Nat} {h0 : HS} {p : Program} {l : Launch} {e : Env} {s : State} {m : MethodId} {args : Array Value} {below : List Frame} {meth : Method} {c : Code} {v0 : Nat} (C : mC D cs Z h0 y_Mod_told c_Mod_told 6 (some .int) p s m args meth c) (post : Int32 → HS → Prop) : ∀ (n : Nat) (x2 : Int32) (x3 : Int32) (h : HS) (H : Heap) (locs : List Loc) (ls : Array Slot), lpF (wb_Mod_told_15 Z post v0) n (x2, x3, h) → lv_has ls 6 [(0, va_rf (some v0)), (2, .int x2), (3, .int x3)] → mR D cs (fA h0 s.heap.size) h s.heap H locs → W p l e ({ frames := 5, cells := 0, slots := 0, locals := 169 } : Room) s m args below meth c H locs 0 0 (MQ below (va_Qi post (mB D cs h0 s.heap.size) (fA h0 s.heap.size)) args s 0 0 (fA h0 s.heap.size)) (F0 m 15 ls []) := by
  obtain ⟨hx, hb, hr, hml, hown, hW, hlocks, hnm, hK, hZ⟩ := id C
  have hown : s.vm.findClass "NetJoinsModel" = some m.cls := hown
  have hA : ∀ q, s.heap.size ≤ q → fA h0 s.heap.size q := fun _ h => Or.inr h
  intro n
  induction n with
  | zero => intro x2 x3 h H locs ls hw; exact hw.elim
  | succ n ih =>
    intro x2 x3 h H locs ls hw hl hR
    have hw : wb_Mod_told_15 Z post v0 (lpF (wb_Mod_told_15 Z post v0) n) (x2, x3, h) := hw
    unfold wb_Mod_told_15 at hw
    dsimp only at hw
    refine lv_iload_n hx hb d_Mod_told_15 rfl (lv_at hl 2 rfl) ?_
    refine mx_aload_n (r := some v0) hx hb d_Mod_told_16 rfl (lv_at hl 0 rfl) ?_
    obtain ⟨t1, hw⟩ := hw
    refine mx_get (ci := 8) (C := "NetJoinsModel") (T := F_Mod) (N := 33) hx hb hW hown hK.1 hR (a := v0) rfl t1 rfl i_Mod 29 0 (by decide) rfl kw_1164 (fun _ h9 => h9) d_Mod_told_17 ?_
    refine lv_icmp_ge (tgt := 94) hx hb d_Mod_told_20 (by decide) (fun c2 => ?_) (fun c2 => ?_)
    · have hw := hw.1 c2
      refine lv_iconst (v := 0) hx hb d_Mod_told_94 (by decide) ?_
      refine lv_istore_n (i := 3) (lv' := [(3, .int (0 : Int32)), (0, va_rf (some v0)), (2, .int x2)]) hx hb d_Mod_told_95 rfl hl (by decide) rfl (fun ls hl => ?_)
      obtain ⟨n9, hw⟩ := hw
      exact mn_Mod_told_96 C post n9 x2 (0 : Int32) _ _ _ _ hw (lv_sub hl [1, 2, 0] rfl) hR
    · have hw := hw.2 c2
      refine mx_aload_n (r := some v0) hx hb d_Mod_told_23 rfl (lv_at hl 0 rfl) ?_
      refine lv_iload_n hx hb d_Mod_told_24 rfl (lv_at hl 2 rfl) ?_
      obtain ⟨t5, hw⟩ := hw
      refine mx_calli (va_runV (b := v0) (As := [.int x3]) (rest := []) ⟨hx, hb, hml, hown, hW⟩ (mt_Mod_nameOf l D cs Z _ hw) (mx_cwV hW ok_Mod_nameOf kw_1372 rfl rfl ⟨Nat.le_of_ble_eq_true rfl, Nat.le_of_ble_eq_true rfl⟩) (mx_preV hK hZ hA hR (ci := 8) rfl t5) rfl rfl hl.1 rfl (lv_room (Nat.le_of_ble_eq_true rfl)) d_Mod_told_25 ⟨Nat.le_of_ble_eq_true rfl, Nat.le_of_ble_eq_true rfl⟩) hR hA (fun r3 h4 H locs hw hR => ?_)
      try dsimp only at hw
      refine lv_istore (i := 4) (lv' := [(4, .int r3), (0, va_rf (some v0)), (2, .int x2), (3, .int x3)]) hx hb d_Mod_told_28 hl (by decide) rfl (fun ls hl => ?_)
      refine lv_iconst (v := 0) hx hb d_Mod_told_30 (by decide) ?_
      refine lv_istore (i := 5) (lv' := [(5, .int (0 : Int32)), (4, .int r3), (0, va_rf (some v0)), (2, .int x2), (3, .int x3)]) hx hb d_Mod_told_31 hl (by decide) rfl (fun ls hl => ?_)
      obtain ⟨n9, hw⟩ := hw
      exact mn_Mod_told_33 C post (lpF (wb_Mod_told_15 Z post v0) n) ih n9 x2 x3 r3 (0 : Int32) _ _ _ _ hw (lv_sub hl [2, 3, 4, 1, 0] rfl) hR
set_option maxHeartbeats 4000000 in
set_option maxRecDepth 100000 in
theorem mt_Mod_told (l : Launch) (D : va_G) (cs : CS) (Z : Nat → Nat) (sz : Nat) {post : Int32 → HS → Prop} {h : HS} {v0 : Nat} {x1 : Int32} (hw : wp_Mod_told Z post h v0 x1) : Met l y_Mod_told (Cond.code y_Mod_told c_Mod_told 6 (some .int) :: WA) ({ frames := 5, cells := 0, slots := 0, locals := 169 } : Room) (mPc D cs Z h sz [va_rf (some v0), .int x1]) (va_Qi post (mB D cs h sz) (fA h sz)) 0 0 (fA h sz) := by
  refine mx_met (fun sz => va_Qi post (mB D cs h sz) (fA h sz)) (by decide) (by simp [lg_sl, mx_rf_cat, cat_i, cat_l]) ?_
  intro p e s m args below meth c C hR ls hl
  have hl : lv_has ls 6 [(0, va_rf (some v0)), (1, .int x1)] := hl
  obtain ⟨hx, hb, hr, hml, hown, hW, hlocks, hnm, hK, hZ⟩ := id C
  have hown : s.vm.findClass "NetJoinsModel" = some m.cls := hown
  have hA : ∀ q, s.heap.size ≤ q → fA h s.heap.size q := fun _ h => Or.inr h
  unfold wp_Mod_told at hw
  refine mx_aload_n (r := some v0) hx hb d_Mod_told_0 rfl (lv_at hl 0 rfl) ?_
  refine lv_iconst (v := 0) hx hb d_Mod_told_1 (by decide) ?_
  obtain ⟨t1, hw⟩ := hw
  refine mx_put (ci := 8) (C := "NetJoinsModel") (T := F_Mod) (N := 33) (v := .int (0 : Int32)) (h' := sI h 800 v0 (0 : Int32)) hx hb hW hown hK.1 hR (a := v0) rfl t1 rfl i_Mod t_Mod t_Mod_ok n_Mod 0 0 (by decide) rfl kw_1135 (fun _ h9 => h9) rfl rfl rfl d_Mod_told_2 rfl (toE_sI (ci := 8) (k := 0) t1 rfl) (fun H locs hR => ?_)
  obtain ⟨h2, eh2⟩ : ∃ z, z = sI h 800 v0 (0 : Int32) := ⟨_, rfl⟩
  rw [← eh2] at hR
  have hw := hw h2 eh2
  refine lv_iload_n hx hb d_Mod_told_5 rfl (lv_at hl 1 rfl) ?_
  refine lv_if_ge (tgt := 11) hx hb d_Mod_told_6 (by decide) (fun c3 => ?_) (fun c3 => ?_)
  · have hw := hw.1 c3
    refine lv_iload_n hx hb d_Mod_told_11 rfl (lv_at hl 1 rfl) ?_
    refine lv_istore_n (i := 2) (lv' := [(2, .int x1), (0, va_rf (some v0)), (1, .int x1)]) hx hb d_Mod_told_12 rfl hl (by decide) rfl (fun ls hl => ?_)
    refine lv_iconst (v := 0) hx hb d_Mod_told_13 (by decide) ?_
    refine lv_istore_n (i := 3) (lv' := [(3, .int (0 : Int32)), (2, .int x1), (0, va_rf (some v0)), (1, .int x1)]) hx hb d_Mod_told_14 rfl hl (by decide) rfl (fun ls hl => ?_)
    obtain ⟨n9, hw⟩ := hw
    exact mn_Mod_told_15 C post n9 x1 (0 : Int32) _ _ _ _ hw (lv_sub hl [2, 1, 0] rfl) hR
  · have hw := hw.2 c3
    refine lv_iconst (v := (-1)) hx hb d_Mod_told_9 (by decide) ?_
    exact mx_iret hx hb hr hlocks hR hw d_Mod_told_10
set_option maxHeartbeats 4000000 in
set_option maxRecDepth 100000 in
theorem mt_Mod_same (l : Launch) (D : va_G) (cs : CS) (Z : Nat → Nat) (sz : Nat) {post : Int32 → HS → Prop} {h : HS} {v0 : Nat}  (hw : wp_Mod_same Z post h v0 ) : Met l y_Mod_same (Cond.code y_Mod_same c_Mod_same 1 (some .boolean) :: WA) ({ frames := 2, cells := 0, slots := 0, locals := 100 } : Room) (mPc D cs Z h sz [va_rf (some v0)]) (va_Qi post (mB D cs h sz) (fA h sz)) 0 0 (fA h sz) := by
  refine mx_met (fun sz => va_Qi post (mB D cs h sz) (fA h sz)) (by decide) (by simp [lg_sl, mx_rf_cat, cat_i, cat_l]) ?_
  intro p e s m args below meth c C hR ls hl
  have hl : lv_has ls 1 [(0, va_rf (some v0))] := hl
  obtain ⟨hx, hb, hr, hml, hown, hW, hlocks, hnm, hK, hZ⟩ := id C
  have hown : s.vm.findClass "NetJoinsModel" = some m.cls := hown
  have hA : ∀ q, s.heap.size ≤ q → fA h s.heap.size q := fun _ h => Or.inr h
  unfold wp_Mod_same at hw
  refine mx_aload_n (r := some v0) hx hb d_Mod_same_0 rfl (lv_at hl 0 rfl) ?_
  refine lv_iconst (v := 0) hx hb d_Mod_same_1 (by decide) ?_
  obtain ⟨t1, hw⟩ := hw
  refine mx_put (ci := 8) (C := "NetJoinsModel") (T := F_Mod) (N := 33) (v := .int (0 : Int32)) (h' := sI h 800 v0 (0 : Int32)) hx hb hW hown hK.1 hR (a := v0) rfl t1 rfl i_Mod t_Mod t_Mod_ok n_Mod 0 0 (by decide) rfl kw_1135 (fun _ h9 => h9) rfl rfl rfl d_Mod_same_2 rfl (toE_sI (ci := 8) (k := 0) t1 rfl) (fun H locs hR => ?_)
  obtain ⟨h2, eh2⟩ : ∃ z, z = sI h 800 v0 (0 : Int32) := ⟨_, rfl⟩
  rw [← eh2] at hR
  have hw := hw h2 eh2
  refine lv_iconst (v := 1) hx hb d_Mod_same_5 (by decide) ?_
  exact mx_zret hx hb hr hlocks hR (Or.inr rfl) hw d_Mod_same_6
set_option maxHeartbeats 4000000 in
set_option maxRecDepth 100000 in
theorem mn_Mod_changed_42 {D : va_G} {cs : CS} {Z : Nat → Nat} {h0 : HS} {p : Program} {l : Launch} {e : Env} {s : State} {m : MethodId} {args : Array Value} {below : List Frame} {meth : Method} {c : Code} {v0 : Nat} (C : mC D cs Z h0 y_Mod_changed c_Mod_changed 4 (some .int) p s m args meth c) (post : Int32 → HS → Prop) (K9 : Int32 × Int32 × Int32 × HS → Prop) (hK9 : ∀ (x1 : Int32) (x2 : Int32) (x3 : Int32) (h : HS) (H : Heap) (locs : List Loc) (ls : Array Slot), K9 (x1, x2, x3, h) → lv_has ls 4 [(0, va_rf (some v0)), (1, .int x1), (2, .int x2), (3, .int x3)] → mR D cs (fA h0 s.heap.size) h s.heap H locs → W p l e ({ frames := 2, cells := 0, slots := 0, locals := 100 } : Room) s m args below meth c H locs 0 0 (MQ below (va_Qi post (mB D cs h0 s.heap.size) (fA h0 s.heap.size)) args s 0 0 (fA h0 s.heap.size)) (F0 m 9 ls [])) : ∀ (x1 : Int32) (x2 : Int32) (x3 : Int32) (h : HS) (H : Heap) (locs : List Loc) (ls : Array Slot), wj_Mod_changed_42 Z post K9 v0 x1 x2 x3 h → lv_has ls 4 [(0, va_rf (some v0)), (1, .int x1), (2, .int x2), (3, .int x3)] → mR D cs (fA h0 s.heap.size) h s.heap H locs → W p l e ({ frames := 2, cells := 0, slots := 0, locals := 100 } : Room) s m args below meth c H locs 0 0 (MQ below (va_Qi post (mB D cs h0 s.heap.size) (fA h0 s.heap.size)) args s 0 0 (fA h0 s.heap.size)) (F0 m 42 ls []) := by
  obtain ⟨hx, hb, hr, hml, hown, hW, hlocks, hnm, hK, hZ⟩ := id C
  have hown : s.vm.findClass "NetJoinsModel" = some m.cls := hown
  have hA : ∀ q, s.heap.size ≤ q → fA h0 s.heap.size q := fun _ h => Or.inr h
  intro x1 x2 x3 h H locs ls hw hl hR
  unfold wj_Mod_changed_42 at hw
  obtain ⟨y1, ey1⟩ : ∃ y : Int32, y = x3 + (1 : Int32) := ⟨_, rfl⟩
  have hw := hw y1 ey1
  refine lv_iinc (v := y1) (lv' := [(3, .int y1), (0, va_rf (some v0)), (1, .int x1), (2, .int x2)]) hx hb d_Mod_changed_42 hl (k := 3) rfl (by rw [ey1]; rfl) (by decide) rfl (fun ls hl => ?_)
  refine lv_goto (tgt := 9) hx hb d_Mod_changed_45 (by decide) ?_
  exact hK9 x1 x2 y1 _ _ _ _ hw (lv_sub hl [1, 2, 3, 0] rfl) hR
set_option maxHeartbeats 4000000 in
set_option maxRecDepth 100000 in
theorem mn_Mod_changed_9 {D : va_G} {cs : CS} {Z : Nat → Nat} {h0 : HS} {p : Program} {l : Launch} {e : Env} {s : State} {m : MethodId} {args : Array Value} {below : List Frame} {meth : Method} {c : Code} {v0 : Nat} (C : mC D cs Z h0 y_Mod_changed c_Mod_changed 4 (some .int) p s m args meth c) (post : Int32 → HS → Prop) : ∀ (n : Nat) (x1 : Int32) (x2 : Int32) (x3 : Int32) (h : HS) (H : Heap) (locs : List Loc) (ls : Array Slot), lpF (wb_Mod_changed_9 Z post v0) n (x1, x2, x3, h) → lv_has ls 4 [(0, va_rf (some v0)), (1, .int x1), (2, .int x2), (3, .int x3)] → mR D cs (fA h0 s.heap.size) h s.heap H locs → W p l e ({ frames := 2, cells := 0, slots := 0, locals := 100 } : Room) s m args below meth c H locs 0 0 (MQ below (va_Qi post (mB D cs h0 s.heap.size) (fA h0 s.heap.size)) args s 0 0 (fA h0 s.heap.size)) (F0 m 9 ls []) := by
  obtain ⟨hx, hb, hr, hml, hown, hW, hlocks, hnm, hK, hZ⟩ := id C
  have hown : s.vm.findClass "NetJoinsModel" = some m.cls := hown
  have hA : ∀ q, s.heap.size ≤ q → fA h0 s.heap.size q := fun _ h => Or.inr h
  intro n
  induction n with
  | zero => intro x1 x2 x3 h H locs ls hw; exact hw.elim
  | succ n ih =>
    intro x1 x2 x3 h H locs ls hw hl hR
    have hw : wb_Mod_changed_9 Z post v0 (lpF (wb_Mod_changed_9 Z post v0) n) (x1, x2, x3, h) := hw
    unfold wb_Mod_changed_9 at hw
    dsimp only at hw
    refine lv_iload_n hx hb d_Mod_changed_9 rfl (lv_at hl 3 rfl) ?_
    refine mx_aload_n (r := some v0) hx hb d_Mod_changed_10 rfl (lv_at hl 0 rfl) ?_
    obtain ⟨t1, hw⟩ := hw
    refine mx_get (ci := 8) (C := "NetJoinsModel") (T := F_Mod) (N := 33) hx hb hW hown hK.1 hR (a := v0) rfl t1 rfl i_Mod 29 0 (by decide) rfl kw_1164 (fun _ h9 => h9) d_Mod_changed_11 ?_
    refine lv_icmp_ge (tgt := 48) hx hb d_Mod_changed_14 (by decide) (fun c2 => ?_) (fun c2 => ?_)
    · have hw := hw.1 c2
      refine lv_iconst (v := (-1)) hx hb d_Mod_changed_48 (by decide) ?_
      exact mx_iret hx hb hr hlocks hR hw d_Mod_changed_49
    · have hw := hw.2 c2
      refine lv_iload_n hx hb d_Mod_changed_17 rfl (lv_at hl 1 rfl) ?_
      refine lv_if_lt (tgt := 48) hx hb d_Mod_changed_18 (by decide) (fun c3 => ?_) (fun c3 => ?_)
      · have hw := hw.1 c3
        refine lv_iconst (v := (-1)) hx hb d_Mod_changed_48 (by decide) ?_
        exact mx_iret hx hb hr hlocks hR hw d_Mod_changed_49
      · have hw := hw.2 c3
        refine mx_aload_n (r := some v0) hx hb d_Mod_changed_21 rfl (lv_at hl 0 rfl) ?_
        obtain ⟨t4, hw⟩ := hw
        refine mx_get (ci := 8) (C := "NetJoinsModel") (T := F_Mod) (N := 33) hx hb hW hown hK.1 hR (a := v0) rfl t4 rfl i_Mod 30 2 (by decide) rfl kw_1165 (fun _ h9 => h9) d_Mod_changed_22 ?_
        refine lv_iload_n hx hb d_Mod_changed_25 rfl (lv_at hl 3 rfl) ?_
        obtain ⟨a5, ea5, t6, t6i, hw⟩ := hw
        refine mx_zald hx hb hK.1 hR (a := a5) ea5 t6 t6i d_Mod_changed_26 ?_
        refine lv_if_ne (tgt := 33) hx hb d_Mod_changed_27 (by decide) (fun c7 => ?_) (fun c7 => ?_)
        · have hw := hw.1 c7
          refine lv_iload_n hx hb d_Mod_changed_33 rfl (lv_at hl 2 rfl) ?_
          refine lv_if_ne (tgt := 39) hx hb d_Mod_changed_34 (by decide) (fun c8 => ?_) (fun c8 => ?_)
          · have hw := hw.1 c8
            obtain ⟨y9, ey9⟩ : ∃ y : Int32, y = x2 + (-1 : Int32) := ⟨_, rfl⟩
            have hw := hw y9 ey9
            refine lv_iinc (v := y9) (lv' := [(2, .int y9), (0, va_rf (some v0)), (1, .int x1), (3, .int x3)]) hx hb d_Mod_changed_39 hl (k := 2) rfl (by rw [ey9]; rfl) (by decide) rfl (fun ls hl => ?_)
            exact mn_Mod_changed_42 C post (lpF (wb_Mod_changed_9 Z post v0) n) ih x1 y9 x3 _ _ _ _ hw (lv_sub hl [1, 2, 0, 3] rfl) hR
          · have hw := hw.2 c8
            refine lv_iload_n hx hb d_Mod_changed_37 rfl (lv_at hl 3 rfl) ?_
            exact mx_iret hx hb hr hlocks hR hw d_Mod_changed_38
        · have hw := hw.2 c7
          refine lv_goto (tgt := 42) hx hb d_Mod_changed_30 (by decide) ?_
          exact mn_Mod_changed_42 C post (lpF (wb_Mod_changed_9 Z post v0) n) ih x1 x2 x3 _ _ _ _ hw (lv_sub hl [0, 1, 2, 3] rfl) hR
set_option maxHeartbeats 4000000 in
set_option maxRecDepth 100000 in
theorem mt_Mod_changed (l : Launch) (D : va_G) (cs : CS) (Z : Nat → Nat) (sz : Nat) {post : Int32 → HS → Prop} {h : HS} {v0 : Nat} {x1 : Int32} (hw : wp_Mod_changed Z post h v0 x1) : Met l y_Mod_changed (Cond.code y_Mod_changed c_Mod_changed 4 (some .int) :: WA) ({ frames := 2, cells := 0, slots := 0, locals := 100 } : Room) (mPc D cs Z h sz [va_rf (some v0), .int x1]) (va_Qi post (mB D cs h sz) (fA h sz)) 0 0 (fA h sz) := by
  refine mx_met (fun sz => va_Qi post (mB D cs h sz) (fA h sz)) (by decide) (by simp [lg_sl, mx_rf_cat, cat_i, cat_l]) ?_
  intro p e s m args below meth c C hR ls hl
  have hl : lv_has ls 4 [(0, va_rf (some v0)), (1, .int x1)] := hl
  obtain ⟨hx, hb, hr, hml, hown, hW, hlocks, hnm, hK, hZ⟩ := id C
  have hown : s.vm.findClass "NetJoinsModel" = some m.cls := hown
  have hA : ∀ q, s.heap.size ≤ q → fA h s.heap.size q := fun _ h => Or.inr h
  unfold wp_Mod_changed at hw
  refine mx_aload_n (r := some v0) hx hb d_Mod_changed_0 rfl (lv_at hl 0 rfl) ?_
  refine lv_iconst (v := 0) hx hb d_Mod_changed_1 (by decide) ?_
  obtain ⟨t1, hw⟩ := hw
  refine mx_put (ci := 8) (C := "NetJoinsModel") (T := F_Mod) (N := 33) (v := .int (0 : Int32)) (h' := sI h 800 v0 (0 : Int32)) hx hb hW hown hK.1 hR (a := v0) rfl t1 rfl i_Mod t_Mod t_Mod_ok n_Mod 0 0 (by decide) rfl kw_1135 (fun _ h9 => h9) rfl rfl rfl d_Mod_changed_2 rfl (toE_sI (ci := 8) (k := 0) t1 rfl) (fun H locs hR => ?_)
  obtain ⟨h2, eh2⟩ : ∃ z, z = sI h 800 v0 (0 : Int32) := ⟨_, rfl⟩
  rw [← eh2] at hR
  have hw := hw h2 eh2
  refine lv_iload_n hx hb d_Mod_changed_5 rfl (lv_at hl 1 rfl) ?_
  refine lv_istore_n (i := 2) (lv' := [(2, .int x1), (0, va_rf (some v0)), (1, .int x1)]) hx hb d_Mod_changed_6 rfl hl (by decide) rfl (fun ls hl => ?_)
  refine lv_iconst (v := 0) hx hb d_Mod_changed_7 (by decide) ?_
  refine lv_istore_n (i := 3) (lv' := [(3, .int (0 : Int32)), (2, .int x1), (0, va_rf (some v0)), (1, .int x1)]) hx hb d_Mod_changed_8 rfl hl (by decide) rfl (fun ls hl => ?_)
  obtain ⟨n9, hw⟩ := hw
  exact mn_Mod_changed_9 C post n9 x1 x1 (0 : Int32) _ _ _ _ hw (lv_sub hl [2, 3, 1, 0] rfl) hR
