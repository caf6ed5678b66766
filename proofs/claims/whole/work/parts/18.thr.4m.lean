set_option maxHeartbeats 4000000 in
set_option maxRecDepth 100000 in
theorem mt_NJ_needSheet (l : Launch) (hlT : l.stackTraces = false) (D : va_G) (cs : CS) (Z : Nat → Nat) (sz : Nat) {post : HS → Prop} {exc : Nat → HS → Prop} {h : HS} {v0 : Nat} {x1 : Int32} (hw : wp_NJ_needSheet Z post exc h v0 x1) : TMet l y_NJ_needSheet (Cond.code y_NJ_needSheet c_NJ_needSheet 2 none :: WA) ({ frames := 8, cells := 1, slots := 6, locals := 200 } : Room) D cs (mPc D cs Z h sz [va_rf (some v0), .int x1]) (va_Qv post (mB D cs h sz) (fA h sz)) exc h sz 1 6 := by
  refine mx_tmet (fun sz => va_Qv post (mB D cs h sz) (fA h sz)) (by decide) hlT (by simp [lg_sl, mx_rf_cat, cat_i, cat_l]) ?_
  intro p e s m args below meth c C hR ls hl
  have hl : lv_has ls 2 [(0, va_rf (some v0)), (1, .int x1)] := hl
  obtain ⟨⟨hx, hb, hr, hml, hown, hW, hlocks, hnm, hK, hZ⟩, hno, -⟩ := id C
  have hown : s.vm.findClass "NetJoins" = some m.cls := hown
  have hA : ∀ q, s.heap.size ≤ q → fA h s.heap.size q := fun _ h => Or.inr h
  unfold wp_NJ_needSheet at hw
  refine lv_iload_n hx hb d_NJ_needSheet_0 rfl (lv_at hl 1 rfl) ?_
  refine lv_if_lt (tgt := 15) hx hb d_NJ_needSheet_1 (by decide) (fun c1 => ?_) (fun c1 => ?_)
  · have hw := hw.1 c1
    exact mx_throw (k := 1) (ic := 221) (ik := 217) (is := 282) (n4 := 3) (tx := "no such sheet") hx hb hlT hown hW hK hZ hlocks hno (hl.1.trans hml.symm) hR t_at1 (by decide) (by decide +kernel) kw_428 kw_12 (by decide) d_NJ_needSheet_15 d_NJ_needSheet_18 (Or.inr ⟨d_NJ_needSheet_19, rfl⟩) d_NJ_needSheet_22 d_NJ_needSheet_25 (by decide) (Nat.le_of_ble_eq_true rfl) (by decide) (by decide) (by decide) (by decide) hw
  · have hw := hw.2 c1
    refine lv_iload_n hx hb d_NJ_needSheet_4 rfl (lv_at hl 1 rfl) ?_
    refine mx_aload_n (r := some v0) hx hb d_NJ_needSheet_5 rfl (lv_at hl 0 rfl) ?_
    obtain ⟨t2, hw⟩ := hw
    refine mx_get (ci := 0) (C := "NetJoins") (T := F_NJ) (N := 18) hx hb hW hown hK.1 hR (a := v0) rfl t2 rfl i_NJ 0 2 (by decide) rfl kw_120 (fun _ h9 => h9) d_NJ_needSheet_6 ?_
    obtain ⟨a5, ea5, t6, hw⟩ := hw
    refine W.eq (g2 := F0 m 9 ls [va_rf (some a5), .int x1]) (by rw [← ea5] <;> rfl) ?_
    refine mx_calli (va_runV (b := a5) (As := []) (rest := [.int x1]) ⟨hx, hb, hml, hown, hW⟩ (mt_AL_size l D cs Z _ hw) (mx_cwV hW ok_AL_size kw_192 rfl rfl ⟨Nat.le_of_ble_eq_true rfl, Nat.le_of_ble_eq_true rfl⟩) (mx_preV hK hZ hA hR (ci := 9) rfl t6) rfl rfl hl.1 rfl (lv_room (Nat.le_of_ble_eq_true rfl)) d_NJ_needSheet_9 ⟨Nat.le_of_ble_eq_true rfl, Nat.le_of_ble_eq_true rfl⟩) hR hA (fun r3 h4 H locs hw hR => ?_)
    try dsimp only at hw
    refine lv_icmp_lt (tgt := 26) hx hb d_NJ_needSheet_12 (by decide) (fun c7 => ?_) (fun c7 => ?_)
    · have hw := hw.1 c7
      refine W.widen (k := 1) (n := 6) (by decide) (by decide) ?_
      exact t_ret (mx_vret hx hb hr hlocks hR hw d_NJ_needSheet_26)
    · have hw := hw.2 c7
      exact mx_throw (k := 1) (ic := 221) (ik := 217) (is := 282) (n4 := 3) (tx := "no such sheet") hx hb hlT hown hW hK hZ hlocks hno (hl.1.trans hml.symm) hR t_at1 (by decide) (by decide +kernel) kw_428 kw_12 (by decide) d_NJ_needSheet_15 d_NJ_needSheet_18 (Or.inr ⟨d_NJ_needSheet_19, rfl⟩) d_NJ_needSheet_22 d_NJ_needSheet_25 (by decide) (Nat.le_of_ble_eq_true rfl) (by decide) (by decide) (by decide) (by decide) hw
set_option maxHeartbeats 4000000 in
set_option maxRecDepth 100000 in
theorem mt_NJ_needDrawn (l : Launch) (hlT : l.stackTraces = false) (D : va_G) (cs : CS) (Z : Nat → Nat) (sz : Nat) {post : HS → Prop} {exc : Nat → HS → Prop} {h : HS} {v0 : Nat} {x1 : Int32} (hw : wp_NJ_needDrawn Z post exc h v0 x1) : TMet l y_NJ_needDrawn (Cond.code y_NJ_needDrawn c_NJ_needDrawn 2 none :: WA) ({ frames := 9, cells := 2, slots := 12, locals := 221 } : Room) D cs (mPc D cs Z h sz [va_rf (some v0), .int x1]) (va_Qv post (mB D cs h sz) (fA h sz)) exc h sz 2 12 := by
  refine mx_tmet (fun sz => va_Qv post (mB D cs h sz) (fA h sz)) (by decide) hlT (by simp [lg_sl, mx_rf_cat, cat_i, cat_l]) ?_
  intro p e s m args below meth c C hR ls hl
  have hl : lv_has ls 2 [(0, va_rf (some v0)), (1, .int x1)] := hl
  obtain ⟨⟨hx, hb, hr, hml, hown, hW, hlocks, hnm, hK, hZ⟩, hno, -⟩ := id C
  have hown : s.vm.findClass "NetJoins" = some m.cls := hown
  have hA : ∀ q, s.heap.size ≤ q → fA h s.heap.size q := fun _ h => Or.inr h
  unfold wp_NJ_needDrawn at hw
  refine mx_aload_n (r := some v0) hx hb d_NJ_needDrawn_0 rfl (lv_at hl 0 rfl) ?_
  refine lv_iload_n hx hb d_NJ_needDrawn_1 rfl (lv_at hl 1 rfl) ?_
  obtain ⟨t3, hw⟩ := hw
  refine mx_tcallV (As := [.int x1]) (rest := []) (b := v0) (ci := 0) hx hb hml hown hW hK hZ hlocks hno hR hA ok_NJ_needSheet kw_424 (mt_NJ_needSheet l hlT D cs Z _ hw) rfl rfl ⟨Nat.le_of_ble_eq_true rfl, Nat.le_of_ble_eq_true rfl⟩ rfl t3 rfl hl.1 rfl (Nat.le_of_ble_eq_true rfl) d_NJ_needDrawn_2 ⟨Nat.le_of_ble_eq_true rfl, Nat.le_of_ble_eq_true rfl⟩ ⟨by decide, by decide⟩ (fun h2 H locs hw hR => ?_)
  refine W.widen (k := 1) (n := 6) (by decide) (by decide) ?_
  try dsimp only at hw
  refine mx_aload_n (r := some v0) hx hb d_NJ_needDrawn_5 rfl (lv_at hl 0 rfl) ?_
  obtain ⟨t4, hw⟩ := hw
  refine mx_get (ci := 0) (C := "NetJoins") (T := F_NJ) (N := 18) hx hb hW hown hK.1 hR (a := v0) rfl t4 rfl i_NJ 0 2 (by decide) rfl kw_120 (fun _ h9 => h9) d_NJ_needDrawn_6 ?_
  refine lv_iload_n hx hb d_NJ_needDrawn_9 rfl (lv_at hl 1 rfl) ?_
  obtain ⟨a7, ea7, t8, hw⟩ := hw
  refine W.eq (g2 := F0 m 10 ls [.int x1, va_rf (some a7)]) (by rw [← ea7] <;> rfl) ?_
  refine mx_callr (va_runV (b := a7) (As := [.int x1]) (rest := []) ⟨hx, hb, hml, hown, hW⟩ (mt_AL_get l D cs Z _ hw) (mx_cwV hW ok_AL_get kw_196 rfl rfl ⟨Nat.le_of_ble_eq_true rfl, Nat.le_of_ble_eq_true rfl⟩) (mx_preV hK hZ hA hR (ci := 9) rfl t8) rfl rfl hl.1 rfl (lv_room (Nat.le_of_ble_eq_true rfl)) d_NJ_needDrawn_10 ⟨Nat.le_of_ble_eq_true rfl, Nat.le_of_ble_eq_true rfl⟩) hR hA (fun r5 h6 H locs hw hR => ?_)
  try dsimp only at hw
  obtain ⟨t9, hw⟩ := hw
  refine mx_cast (ci := 5) (C := "NetJoins$Sheet") (T := F_Sheet) (N := 5) hx hb hW hown hK.1 hR rfl kw_211 t9 d_NJ_needDrawn_13 ?_
  obtain ⟨a10, ea10, t11, hw⟩ := hw
  refine mx_get (ci := 5) (C := "NetJoins$Sheet") (T := F_Sheet) (N := 5) hx hb hW hown hK.1 hR (a := a10) ea10 t11 rfl i_Sheet 2 0 (by decide) rfl kw_526 (fun _ h9 => h9) d_NJ_needDrawn_16 ?_
  refine lv_iload_n hx hb d_NJ_needDrawn_19 rfl (lv_at hl 1 rfl) ?_
  refine lv_icmp_eq (tgt := 34) hx hb d_NJ_needDrawn_20 (by decide) (fun c12 => ?_) (fun c12 => ?_)
  · have hw := hw.1 c12
    refine W.widen (k := 2) (n := 12) (by decide) (by decide) ?_
    exact t_ret (mx_vret hx hb hr hlocks hR hw d_NJ_needDrawn_34)
  · have hw := hw.2 c12
    exact mx_throw (k := 2) (ic := 288) (ik := 284) (is := 286) (n4 := 3) (tx := "the sheet is not drawn") hx hb hlT hown hW hK hZ hlocks hno (hl.1.trans hml.symm) hR t_at2 (by decide) (by decide +kernel) kw_500 kw_15 (by decide) d_NJ_needDrawn_23 d_NJ_needDrawn_26 (Or.inr ⟨d_NJ_needDrawn_27, rfl⟩) d_NJ_needDrawn_30 d_NJ_needDrawn_33 (by decide) (Nat.le_of_ble_eq_true rfl) (by decide) (by decide) (by decide) (by decide) hw
set_option maxHeartbeats 4000000 in
set_option maxRecDepth 100000 in
theorem mn_NJ_sheet_62 {D : va_G} {cs : CS} {Z : Nat → Nat} {h0 : HS} {p : Program} {l : Launch} {e : Env} {s : State} {m : MethodId} {args : Array Value} {below : List Frame} {meth : Method} {c : Code} {v0 : Nat} (C : tC D cs Z h0 y_NJ_sheet c_NJ_sheet 5 (some .int) l p s m args meth c) (post : Int32 → HS → Prop) (exc : Nat → HS → Prop) : ∀ (x3 : Int32) (s0 : Option Nat) (h : HS) (H : Heap) (locs : List Loc) (ls : Array Slot), wj_NJ_sheet_62 Z post exc v0 x3 s0 h → lv_has ls 5 [(0, va_rf (some v0)), (3, .int x3)] → mR D cs (fA h0 s.heap.size) h s.heap H locs → W p l e ({ frames := 10, cells := 6, slots := 1123, locals := 431 } : Room) s m args below meth c H locs 4 23 (tMQ D cs below (va_Qi post (mB D cs h0 s.heap.size) (fA h0 s.heap.size)) exc h0 s.heap.size args s 6 1123) (F0 m 62 ls [va_rf s0]) := by
  obtain ⟨⟨hx, hb, hr, hml, hown, hW, hlocks, hnm, hK, hZ⟩, hno, hlT⟩ := id C
  have hown : s.vm.findClass "NetJoins" = some m.cls := hown
  have hA : ∀ q, s.heap.size ≤ q → fA h0 s.heap.size q := fun _ h => Or.inr h
  intro x3 s0 h H locs ls hw hl hR
  unfold wj_NJ_sheet_62 at hw
  refine mx_astore (i := 4) (r := s0) (lv' := [(4, va_rf s0), (0, va_rf (some v0)), (3, .int x3)]) hx hb d_NJ_sheet_62 hl (by decide) rfl (fun ls hl => ?_)
  refine mx_aload_n (r := some v0) hx hb d_NJ_sheet_64 rfl (lv_at hl 1 rfl) ?_
  obtain ⟨t1, hw⟩ := hw
  refine mx_get (ci := 0) (C := "NetJoins") (T := F_NJ) (N := 18) hx hb hW hown hK.1 hR (a := v0) rfl t1 rfl i_NJ 0 2 (by decide) rfl kw_120 (fun _ h9 => h9) d_NJ_sheet_65 ?_
  refine mx_aload (r := s0) hx hb d_NJ_sheet_68 (lv_at hl 0 rfl) ?_
  obtain ⟨a4, ea4, t5, hw⟩ := hw
  refine W.eq (g2 := F0 m 70 ls [va_rf s0, va_rf (some a4)]) (by rw [← ea4] <;> rfl) ?_
  refine mx_calli (va_runV (b := a4) (As := [va_rf s0]) (rest := []) ⟨hx, hb, hml, hown, hW⟩ (mt_AL_add2 l D cs Z _ hw) (mx_cwV hW ok_AL_add2 kw_546 rfl rfl ⟨Nat.le_of_ble_eq_true rfl, Nat.le_of_ble_eq_true rfl⟩) (mx_preV hK hZ hA hR (ci := 9) rfl t5) rfl rfl hl.1 rfl (lv_room (Nat.le_of_ble_eq_true rfl)) d_NJ_sheet_70 ⟨Nat.le_of_ble_eq_true rfl, Nat.le_of_ble_eq_true rfl⟩) hR hA (fun r2 h3 H locs hw hR => ?_)
  refine W.widen (k := 5) (n := 223) (by decide) (by decide) ?_
  try dsimp only at hw
  refine lv_pop hx hb d_NJ_sheet_73 rfl ?_
  refine mx_aload_n (r := some v0) hx hb d_NJ_sheet_74 rfl (lv_at hl 1 rfl) ?_
  obtain ⟨t6, hw⟩ := hw
  refine mx_get (ci := 0) (C := "NetJoins") (T := F_NJ) (N := 18) hx hb hW hown hK.1 hR (a := v0) rfl t6 rfl i_NJ 10 2 (by decide) rfl kw_130 (fun _ h9 => h9) d_NJ_sheet_75 ?_
  refine lv_iconst (v := 1) hx hb d_NJ_sheet_78 (by decide) ?_
  refine lv_iload_n hx hb d_NJ_sheet_79 rfl (lv_at hl 2 rfl) ?_
  refine lv_iadd hx hb d_NJ_sheet_80 ?_
  refine lv_sipush (v := 900) hx hb d_NJ_sheet_81 (by decide) ?_
  obtain ⟨a9, ea9, t10, hw⟩ := hw
  refine W.eq (g2 := F0 m 84 ls [.int (900 : Int32), .int ((1 : Int32) + x3), va_rf (some a9)]) (by rw [← ea9] <;> rfl) ?_
  refine mx_callv (va_runV (b := a9) (As := [.int ((1 : Int32) + x3), .int (900 : Int32)]) (rest := []) ⟨hx, hb, hml, hown, hW⟩ (mt_Joins_addRow l D cs Z _ hw) (mx_cwV hW ok_Joins_addRow kw_602 rfl rfl ⟨Nat.le_of_ble_eq_true rfl, Nat.le_of_ble_eq_true rfl⟩) (mx_preV hK hZ hA hR (ci := 2) rfl t10) rfl rfl hl.1 rfl (lv_room (Nat.le_of_ble_eq_true rfl)) d_NJ_sheet_84 ⟨Nat.le_of_ble_eq_true rfl, Nat.le_of_ble_eq_true rfl⟩) hR hA (fun h8 H locs hw hR => ?_)
  refine W.widen (k := 6) (n := 1123) (by decide) (by decide) ?_
  try dsimp only at hw
  refine mx_aload_n (r := some v0) hx hb d_NJ_sheet_87 rfl (lv_at hl 1 rfl) ?_
  refine mx_aload (r := s0) hx hb d_NJ_sheet_88 (lv_at hl 0 rfl) ?_
  obtain ⟨t13, hw⟩ := hw
  refine mx_callv (va_runV (b := v0) (As := [va_rf s0]) (rest := []) ⟨hx, hb, hml, hown, hW⟩ (mt_NJ_spreadOn l D cs Z _ hw) (mx_cwV hW ok_NJ_spreadOn kw_348 rfl rfl ⟨Nat.le_of_ble_eq_true rfl, Nat.le_of_ble_eq_true rfl⟩) (mx_preV hK hZ hA hR (ci := 0) rfl t13) rfl rfl hl.1 rfl (lv_room (Nat.le_of_ble_eq_true rfl)) d_NJ_sheet_90 ⟨Nat.le_of_ble_eq_true rfl, Nat.le_of_ble_eq_true rfl⟩) hR hA (fun h12 H locs hw hR => ?_)
  try dsimp only at hw
  refine mx_aload_n (r := some v0) hx hb d_NJ_sheet_93 rfl (lv_at hl 1 rfl) ?_
  refine mx_aload (r := s0) hx hb d_NJ_sheet_94 (lv_at hl 0 rfl) ?_
  obtain ⟨t16, hw⟩ := hw
  refine mx_callv (va_runV (b := v0) (As := [va_rf s0]) (rest := []) ⟨hx, hb, hml, hown, hW⟩ (mt_NJ_joinBusesOn l D cs Z _ hw) (mx_cwV hW ok_NJ_joinBusesOn kw_360 rfl rfl ⟨Nat.le_of_ble_eq_true rfl, Nat.le_of_ble_eq_true rfl⟩) (mx_preV hK hZ hA hR (ci := 0) rfl t16) rfl rfl hl.1 rfl (lv_room (Nat.le_of_ble_eq_true rfl)) d_NJ_sheet_96 ⟨Nat.le_of_ble_eq_true rfl, Nat.le_of_ble_eq_true rfl⟩) hR hA (fun h15 H locs hw hR => ?_)
  try dsimp only at hw
  refine mx_aload_n (r := some v0) hx hb d_NJ_sheet_99 rfl (lv_at hl 1 rfl) ?_
  obtain ⟨t19, hw⟩ := hw
  refine mx_callv (va_runV (b := v0) (As := []) (rest := []) ⟨hx, hb, hml, hown, hW⟩ (mt_NJ_keepUp l D cs Z _ hw) (mx_cwV hW ok_NJ_keepUp kw_606 rfl rfl ⟨Nat.le_of_ble_eq_true rfl, Nat.le_of_ble_eq_true rfl⟩) (mx_preV hK hZ hA hR (ci := 0) rfl t19) rfl rfl hl.1 rfl (lv_room (Nat.le_of_ble_eq_true rfl)) d_NJ_sheet_100 ⟨Nat.le_of_ble_eq_true rfl, Nat.le_of_ble_eq_true rfl⟩) hR hA (fun h18 H locs hw hR => ?_)
  try dsimp only at hw
  refine lv_iload_n hx hb d_NJ_sheet_103 rfl (lv_at hl 2 rfl) ?_
  exact t_ret (mx_iret hx hb hr hlocks hR hw d_NJ_sheet_104)
set_option maxHeartbeats 4000000 in
set_option maxRecDepth 100000 in
theorem mn_NJ_sheet_20 {D : va_G} {cs : CS} {Z : Nat → Nat} {h0 : HS} {p : Program} {l : Launch} {e : Env} {s : State} {m : MethodId} {args : Array Value} {below : List Frame} {meth : Method} {c : Code} {v0 : Nat} (C : tC D cs Z h0 y_NJ_sheet c_NJ_sheet 5 (some .int) l p s m args meth c) (post : Int32 → HS → Prop) (exc : Nat → HS → Prop) : ∀ (x1 : Int32) (x2 : Int32) (h : HS) (H : Heap) (locs : List Loc) (ls : Array Slot), wj_NJ_sheet_20 Z post exc v0 x1 x2 h → lv_has ls 5 [(0, va_rf (some v0)), (1, .int x1), (2, .int x2)] → mR D cs (fA h0 s.heap.size) h s.heap H locs → W p l e ({ frames := 10, cells := 6, slots := 1123, locals := 431 } : Room) s m args below meth c H locs 3 18 (tMQ D cs below (va_Qi post (mB D cs h0 s.heap.size) (fA h0 s.heap.size)) exc h0 s.heap.size args s 6 1123) (F0 m 20 ls []) := by
  obtain ⟨⟨hx, hb, hr, hml, hown, hW, hlocks, hnm, hK, hZ⟩, hno, hlT⟩ := id C
  have hown : s.vm.findClass "NetJoins" = some m.cls := hown
  have hA : ∀ q, s.heap.size ≤ q → fA h0 s.heap.size q := fun _ h => Or.inr h
  intro x1 x2 h H locs ls hw hl hR
  unfold wj_NJ_sheet_20 at hw
  refine mx_aload_n (r := some v0) hx hb d_NJ_sheet_20 rfl (lv_at hl 0 rfl) ?_
  obtain ⟨t1, hw⟩ := hw
  refine mx_get (ci := 0) (C := "NetJoins") (T := F_NJ) (N := 18) hx hb hW hown hK.1 hR (a := v0) rfl t1 rfl i_NJ 0 2 (by decide) rfl kw_120 (fun _ h9 => h9) d_NJ_sheet_21 ?_
  obtain ⟨a4, ea4, t5, hw⟩ := hw
  refine W.eq (g2 := F0 m 24 ls [va_rf (some a4)]) (by rw [← ea4] <;> rfl) ?_
  refine mx_calli (va_runV (b := a4) (As := []) (rest := []) ⟨hx, hb, hml, hown, hW⟩ (mt_AL_size l D cs Z _ hw) (mx_cwV hW ok_AL_size kw_192 rfl rfl ⟨Nat.le_of_ble_eq_true rfl, Nat.le_of_ble_eq_true rfl⟩) (mx_preV hK hZ hA hR (ci := 9) rfl t5) rfl rfl hl.1 rfl (lv_room (Nat.le_of_ble_eq_true rfl)) d_NJ_sheet_24 ⟨Nat.le_of_ble_eq_true rfl, Nat.le_of_ble_eq_true rfl⟩) hR hA (fun r2 h3 H locs hw hR => ?_)
  try dsimp only at hw
  refine lv_istore_n (i := 3) (lv' := [(3, .int r2), (0, va_rf (some v0)), (1, .int x1), (2, .int x2)]) hx hb d_NJ_sheet_27 rfl hl (by decide) rfl (fun ls hl => ?_)
  refine lv_iload_n hx hb d_NJ_sheet_28 rfl (lv_at hl 0 rfl) ?_
  refine lv_bipush (v := 16) hx hb d_NJ_sheet_29 (by decide) ?_
  refine lv_icmp_lt (tgt := 36) hx hb d_NJ_sheet_31 (by decide) (fun c6 => ?_) (fun c6 => ?_)
  · have hw := hw.1 c6
    refine lv_iload_n hx hb d_NJ_sheet_36 rfl (lv_at hl 3 rfl) ?_
    refine lv_iconst (v := (-1)) hx hb d_NJ_sheet_37 (by decide) ?_
    refine lv_icmp_ne (tgt := 55) hx hb d_NJ_sheet_38 (by decide) (fun c7 => ?_) (fun c7 => ?_)
    · have hw := hw.1 c7
      refine mx_aload_n (r := some v0) hx hb d_NJ_sheet_55 rfl (lv_at hl 1 rfl) ?_
      refine lv_iload_n hx hb d_NJ_sheet_56 rfl (lv_at hl 3 rfl) ?_
      refine lv_iload_n hx hb d_NJ_sheet_57 rfl (lv_at hl 0 rfl) ?_
      refine lv_iload_n hx hb d_NJ_sheet_58 rfl (lv_at hl 2 rfl) ?_
      obtain ⟨t10, hw⟩ := hw
      refine mx_callr (va_runV (b := v0) (As := [.int x2, .int r2, .int x1]) (rest := []) ⟨hx, hb, hml, hown, hW⟩ (mt_NJ_repeatOf l D cs Z _ hw) (mx_cwV hW ok_NJ_repeatOf kw_542 rfl rfl ⟨Nat.le_of_ble_eq_true rfl, Nat.le_of_ble_eq_true rfl⟩) (mx_preV hK hZ hA hR (ci := 0) rfl t10) rfl rfl hl.1 rfl (lv_room (Nat.le_of_ble_eq_true rfl)) d_NJ_sheet_59 ⟨Nat.le_of_ble_eq_true rfl, Nat.le_of_ble_eq_true rfl⟩) hR hA (fun r8 h9 H locs hw hR => ?_)
      refine W.widen (k := 4) (n := 23) (by decide) (by decide) ?_
      try dsimp only at hw
      exact mn_NJ_sheet_62 C post exc r2 r8 _ _ _ _ hw (lv_sub hl [1, 0] rfl) hR
    · have hw := hw.2 c7
      refine mx_new (ci := 5) (C := "NetJoins$Sheet") (T := F_Sheet) (N := 5) hx hb hW hown hK.1 hR hA rfl i_Sheet t_Sheet t_Sheet_ok kw_211 kw_516 kw_16 (fun q j hj => nf_Sheet _ q j hj) (by decide) (by decide) d_NJ_sheet_41 (fun q11 H tq11 hR => ?_)
      refine W.widen (k := 4) (n := 23) (by decide) (by decide) ?_
      have hw := hw q11 tq11
      obtain ⟨h12, eh12⟩ : ∃ z, z = nH h3 q11 21 0 := ⟨_, rfl⟩
      rw [← eh12] at hR
      have hw := hw h12 eh12
      refine lv_dup hx hb d_NJ_sheet_44 (mx_rf_cat _) ?_
      refine lv_iload_n hx hb d_NJ_sheet_45 rfl (lv_at hl 0 rfl) ?_
      refine lv_iload_n hx hb d_NJ_sheet_46 rfl (lv_at hl 2 rfl) ?_
      refine lv_iload_n hx hb d_NJ_sheet_47 rfl (lv_at hl 0 rfl) ?_
      refine lv_iconst (v := 0) hx hb d_NJ_sheet_48 (by decide) ?_
      refine mx_callv (va_runI (b := q11) (As := [.int r2, .int x1, .int r2, .int (0 : Int32)]) (rest := [va_rf (some q11)]) ⟨hx, hb, hml, hown, hW⟩ (mt_Sheet_init l D cs Z _ hw) (mx_cwI hW ok_Sheet_init kw_517 rfl rfl ⟨Nat.le_of_ble_eq_true rfl, Nat.le_of_ble_eq_true rfl⟩) (mx_preS hK hZ hA hR) rfl rfl hl.1 rfl (lv_room (Nat.le_of_ble_eq_true rfl)) d_NJ_sheet_49 ⟨Nat.le_of_ble_eq_true rfl, Nat.le_of_ble_eq_true rfl⟩) hR hA (fun h14 H locs hw hR => ?_)
      try dsimp only at hw
      refine lv_goto (tgt := 62) hx hb d_NJ_sheet_52 (by decide) ?_
      exact mn_NJ_sheet_62 C post exc r2 (some q11) _ _ _ _ hw (lv_sub hl [1, 0] rfl) hR
  · have hw := hw.2 c6
    refine lv_iconst (v := (-1)) hx hb d_NJ_sheet_34 (by decide) ?_
    refine W.widen (k := 6) (n := 1123) (by decide) (by decide) ?_
    exact t_ret (mx_iret hx hb hr hlocks hR hw d_NJ_sheet_35)
set_option maxHeartbeats 4000000 in
set_option maxRecDepth 100000 in
theorem mn_NJ_sheet_10 {D : va_G} {cs : CS} {Z : Nat → Nat} {h0 : HS} {p : Program} {l : Launch} {e : Env} {s : State} {m : MethodId} {args : Array Value} {below : List Frame} {meth : Method} {c : Code} {v0 : Nat} (C : tC D cs Z h0 y_NJ_sheet c_NJ_sheet 5 (some .int) l p s m args meth c) (post : Int32 → HS → Prop) (exc : Nat → HS → Prop) : ∀ (x1 : Int32) (x2 : Int32) (h : HS) (H : Heap) (locs : List Loc) (ls : Array Slot), wj_NJ_sheet_10 Z post exc v0 x1 x2 h → lv_has ls 5 [(0, va_rf (some v0)), (1, .int x1), (2, .int x2)] → mR D cs (fA h0 s.heap.size) h s.heap H locs → W p l e ({ frames := 10, cells := 6, slots := 1123, locals := 431 } : Room) s m args below meth c H locs 1 6 (tMQ D cs below (va_Qi post (mB D cs h0 s.heap.size) (fA h0 s.heap.size)) exc h0 s.heap.size args s 6 1123) (F0 m 10 ls []) := by
  obtain ⟨⟨hx, hb, hr, hml, hown, hW, hlocks, hnm, hK, hZ⟩, hno, hlT⟩ := id C
  have hown : s.vm.findClass "NetJoins" = some m.cls := hown
  have hA : ∀ q, s.heap.size ≤ q → fA h0 s.heap.size q := fun _ h => Or.inr h
  intro x1 x2 h H locs ls hw hl hR
  unfold wj_NJ_sheet_10 at hw
  refine lv_iload_n hx hb d_NJ_sheet_10 rfl (lv_at hl 2 rfl) ?_
  refine lv_iconst (v := (-1)) hx hb d_NJ_sheet_11 (by decide) ?_
  refine lv_icmp_eq (tgt := 20) hx hb d_NJ_sheet_12 (by decide) (fun c1 => ?_) (fun c1 => ?_)
  · have hw := hw.1 c1
    refine W.widen (k := 3) (n := 18) (by decide) (by decide) ?_
    exact mn_NJ_sheet_20 C post exc x1 x2 _ _ _ _ hw (lv_sub hl [0, 1, 2] rfl) hR
  · have hw := hw.2 c1
    refine mx_aload_n (r := some v0) hx hb d_NJ_sheet_15 rfl (lv_at hl 0 rfl) ?_
    refine lv_iload_n hx hb d_NJ_sheet_16 rfl (lv_at hl 2 rfl) ?_
    obtain ⟨t4, hw⟩ := hw
    refine mx_tcallV (As := [.int x2]) (rest := []) (b := v0) (ci := 0) hx hb hml hown hW hK hZ hlocks hno hR hA ok_NJ_needDrawn kw_496 (mt_NJ_needDrawn l hlT D cs Z _ hw) rfl rfl ⟨Nat.le_of_ble_eq_true rfl, Nat.le_of_ble_eq_true rfl⟩ rfl t4 rfl hl.1 rfl (Nat.le_of_ble_eq_true rfl) d_NJ_sheet_17 ⟨Nat.le_of_ble_eq_true rfl, Nat.le_of_ble_eq_true rfl⟩ ⟨by decide, by decide⟩ (fun h3 H locs hw hR => ?_)
    refine W.widen (k := 3) (n := 18) (by decide) (by decide) ?_
    try dsimp only at hw
    exact mn_NJ_sheet_20 C post exc x1 x2 _ _ _ _ hw (lv_sub hl [0, 1, 2] rfl) hR
set_option maxHeartbeats 4000000 in
set_option maxRecDepth 100000 in
theorem mt_NJ_sheet (l : Launch) (hlT : l.stackTraces = false) (D : va_G) (cs : CS) (Z : Nat → Nat) (sz : Nat) {post : Int32 → HS → Prop} {exc : Nat → HS → Prop} {h : HS} {v0 : Nat} {x1 : Int32} {x2 : Int32} (hw : wp_NJ_sheet Z post exc h v0 x1 x2) : TMet l y_NJ_sheet (Cond.code y_NJ_sheet c_NJ_sheet 5 (some .int) :: WA) ({ frames := 10, cells := 6, slots := 1123, locals := 431 } : Room) D cs (mPc D cs Z h sz [va_rf (some v0), .int x1, .int x2]) (va_Qi post (mB D cs h sz) (fA h sz)) exc h sz 6 1123 := by
  refine mx_tmet (fun sz => va_Qi post (mB D cs h sz) (fA h sz)) (by decide) hlT (by simp [lg_sl, mx_rf_cat, cat_i, cat_l]) ?_
  intro p e s m args below meth c C hR ls hl
  have hl : lv_has ls 5 [(0, va_rf (some v0)), (1, .int x1), (2, .int x2)] := hl
  obtain ⟨⟨hx, hb, hr, hml, hown, hW, hlocks, hnm, hK, hZ⟩, hno, -⟩ := id C
  have hown : s.vm.findClass "NetJoins" = some m.cls := hown
  have hA : ∀ q, s.heap.size ≤ q → fA h s.heap.size q := fun _ h => Or.inr h
  unfold wp_NJ_sheet at hw
  refine lv_iload_n hx hb d_NJ_sheet_0 rfl (lv_at hl 1 rfl) ?_
  refine lv_iconst (v := (-1)) hx hb d_NJ_sheet_1 (by decide) ?_
  refine lv_icmp_eq (tgt := 10) hx hb d_NJ_sheet_2 (by decide) (fun c1 => ?_) (fun c1 => ?_)
  · have hw := hw.1 c1
    refine W.widen (k := 1) (n := 6) (by decide) (by decide) ?_
    exact mn_NJ_sheet_10 C post exc x1 x2 _ _ _ _ hw (lv_sub hl [0, 1, 2] rfl) hR
  · have hw := hw.2 c1
    refine mx_aload_n (r := some v0) hx hb d_NJ_sheet_5 rfl (lv_at hl 0 rfl) ?_
    refine lv_iload_n hx hb d_NJ_sheet_6 rfl (lv_at hl 1 rfl) ?_
    obtain ⟨t4, hw⟩ := hw
    refine mx_tcallV (As := [.int x1]) (rest := []) (b := v0) (ci := 0) hx hb hml hown hW hK hZ hlocks hno hR hA ok_NJ_needSheet kw_424 (mt_NJ_needSheet l hlT D cs Z _ hw) rfl rfl ⟨Nat.le_of_ble_eq_true rfl, Nat.le_of_ble_eq_true rfl⟩ rfl t4 rfl hl.1 rfl (Nat.le_of_ble_eq_true rfl) d_NJ_sheet_7 ⟨Nat.le_of_ble_eq_true rfl, Nat.le_of_ble_eq_true rfl⟩ ⟨by decide, by decide⟩ (fun h3 H locs hw hR => ?_)
    refine W.widen (k := 1) (n := 6) (by decide) (by decide) ?_
    try dsimp only at hw
    exact mn_NJ_sheet_10 C post exc x1 x2 _ _ _ _ hw (lv_sub hl [0, 1, 2] rfl) hR
set_option maxHeartbeats 4000000 in
set_option maxRecDepth 100000 in
theorem mt_NJ_needPlace (l : Launch) (hlT : l.stackTraces = false) (D : va_G) (cs : CS) (Z : Nat → Nat) (sz : Nat) {post : HS → Prop} {exc : Nat → HS → Prop} {h : HS} {x0 : Int64} {x2 : Int64} (hw : wp_NJ_needPlace Z post exc h x0 x2) : TMet l y_NJ_needPlace (Cond.code y_NJ_needPlace c_NJ_needPlace 4 none :: WA) ({ frames := 8, cells := 1, slots := 6, locals := 200 } : Room) D cs (mPc D cs Z h sz [.long x0, .long x2]) (va_Qv post (mB D cs h sz) (fA h sz)) exc h sz 1 6 := by
  refine mx_tmet (fun sz => va_Qv post (mB D cs h sz) (fA h sz)) (by decide) hlT (by simp [lg_sl, mx_rf_cat, cat_i, cat_l]) ?_
  intro p e s m args below meth c C hR ls hl
  have hl : lv_has ls 4 [(0, .long x0), (2, .long x2)] := hl
  obtain ⟨⟨hx, hb, hr, hml, hown, hW, hlocks, hnm, hK, hZ⟩, hno, -⟩ := id C
  have hown : s.vm.findClass "NetJoins" = some m.cls := hown
  have hA : ∀ q, s.heap.size ≤ q → fA h s.heap.size q := fun _ h => Or.inr h
  unfold wp_NJ_needPlace at hw
  refine lv_lload_n hx hb d_NJ_needPlace_0 rfl (lv_at hl 0 rfl) ?_
  refine lv_ldc2 hx hb hown (hW _ kw_625) d_NJ_needPlace_1 ?_
  refine W.lcmp hx hb d_NJ_needPlace_4 ?_
  refine lv_if_lt (tgt := 32) hx hb d_NJ_needPlace_5 (by decide) (fun c1 => ?_) (fun c1 => ?_)
  · have hw := hw.1 c1
    exact mx_throw (k := 3) (ic := 114) (ik := 110) (is := 299) (n4 := 3) (tx := "no place") hx hb hlT hown hW hK hZ hlocks hno (hl.1.trans hml.symm) hR t_at3 (by decide) (by decide +kernel) kw_627 kw_20 (by decide) d_NJ_needPlace_32 d_NJ_needPlace_35 (Or.inr ⟨d_NJ_needPlace_36, rfl⟩) d_NJ_needPlace_39 d_NJ_needPlace_42 (by decide) (Nat.le_of_ble_eq_true rfl) (by decide) (by decide) (by decide) (by decide) hw
  · have hw := hw.2 c1
    refine lv_lload_n hx hb d_NJ_needPlace_8 rfl (lv_at hl 0 rfl) ?_
    refine lv_ldc2 hx hb hown (hW _ kw_626) d_NJ_needPlace_9 ?_
    refine W.lcmp hx hb d_NJ_needPlace_12 ?_
    refine lv_if_gt (tgt := 32) hx hb d_NJ_needPlace_13 (by decide) (fun c2 => ?_) (fun c2 => ?_)
    · have hw := hw.1 c2
      exact mx_throw (k := 3) (ic := 114) (ik := 110) (is := 299) (n4 := 3) (tx := "no place") hx hb hlT hown hW hK hZ hlocks hno (hl.1.trans hml.symm) hR t_at3 (by decide) (by decide +kernel) kw_627 kw_20 (by decide) d_NJ_needPlace_32 d_NJ_needPlace_35 (Or.inr ⟨d_NJ_needPlace_36, rfl⟩) d_NJ_needPlace_39 d_NJ_needPlace_42 (by decide) (Nat.le_of_ble_eq_true rfl) (by decide) (by decide) (by decide) (by decide) hw
    · have hw := hw.2 c2
      refine lv_lload_n hx hb d_NJ_needPlace_16 rfl (lv_at hl 1 rfl) ?_
      refine lv_ldc2 hx hb hown (hW _ kw_625) d_NJ_needPlace_17 ?_
      refine W.lcmp hx hb d_NJ_needPlace_20 ?_
      refine lv_if_lt (tgt := 32) hx hb d_NJ_needPlace_21 (by decide) (fun c3 => ?_) (fun c3 => ?_)
      · have hw := hw.1 c3
        exact mx_throw (k := 3) (ic := 114) (ik := 110) (is := 299) (n4 := 3) (tx := "no place") hx hb hlT hown hW hK hZ hlocks hno (hl.1.trans hml.symm) hR t_at3 (by decide) (by decide +kernel) kw_627 kw_20 (by decide) d_NJ_needPlace_32 d_NJ_needPlace_35 (Or.inr ⟨d_NJ_needPlace_36, rfl⟩) d_NJ_needPlace_39 d_NJ_needPlace_42 (by decide) (Nat.le_of_ble_eq_true rfl) (by decide) (by decide) (by decide) (by decide) hw
      · have hw := hw.2 c3
        refine lv_lload_n hx hb d_NJ_needPlace_24 rfl (lv_at hl 1 rfl) ?_
        refine lv_ldc2 hx hb hown (hW _ kw_626) d_NJ_needPlace_25 ?_
        refine W.lcmp hx hb d_NJ_needPlace_28 ?_
        refine lv_if_le (tgt := 43) hx hb d_NJ_needPlace_29 (by decide) (fun c4 => ?_) (fun c4 => ?_)
        · have hw := hw.1 c4
          refine W.widen (k := 1) (n := 6) (by decide) (by decide) ?_
          exact t_ret (mx_vret hx hb hr hlocks hR hw d_NJ_needPlace_43)
        · have hw := hw.2 c4
          exact mx_throw (k := 3) (ic := 114) (ik := 110) (is := 299) (n4 := 3) (tx := "no place") hx hb hlT hown hW hK hZ hlocks hno (hl.1.trans hml.symm) hR t_at3 (by decide) (by decide +kernel) kw_627 kw_20 (by decide) d_NJ_needPlace_32 d_NJ_needPlace_35 (Or.inr ⟨d_NJ_needPlace_36, rfl⟩) d_NJ_needPlace_39 d_NJ_needPlace_42 (by decide) (Nat.le_of_ble_eq_true rfl) (by decide) (by decide) (by decide) (by decide) hw
set_option maxHeartbeats 4000000 in
set_option maxRecDepth 100000 in
theorem mn_NJ_wire_43 {D : va_G} {cs : CS} {Z : Nat → Nat} {h0 : HS} {p : Program} {l : Launch} {e : Env} {s : State} {m : MethodId} {args : Array Value} {below : List Frame} {meth : Method} {c : Code} {v0 : Nat} (C : tC D cs Z h0 y_NJ_wire c_NJ_wire 12 (some .int) l p s m args meth c) (post : Int32 → HS → Prop) (exc : Nat → HS → Prop) : ∀ (x1 : Int32) (x2 : Int64) (x4 : Int64) (x6 : Int64) (x8 : Int64) (h : HS) (H : Heap) (locs : List Loc) (ls : Array Slot), wj_NJ_wire_43 Z post exc v0 x1 x2 x4 x6 x8 h → lv_has ls 12 [(0, va_rf (some v0)), (1, .int x1), (2, .long x2), (4, .long x4), (6, .long x6), (8, .long x8)] → mR D cs (fA h0 s.heap.size) h s.heap H locs → W p l e ({ frames := 10, cells := 6, slots := 231, locals := 431 } : Room) s m args below meth c H locs 4 24 (tMQ D cs below (va_Qi post (mB D cs h0 s.heap.size) (fA h0 s.heap.size)) exc h0 s.heap.size args s 6 231) (F0 m 43 ls []) := by
  obtain ⟨⟨hx, hb, hr, hml, hown, hW, hlocks, hnm, hK, hZ⟩, hno, hlT⟩ := id C
  have hown : s.vm.findClass "NetJoins" = some m.cls := hown
  have hA : ∀ q, s.heap.size ≤ q → fA h0 s.heap.size q := fun _ h => Or.inr h
  intro x1 x2 x4 x6 x8 h H locs ls hw hl hR
  unfold wj_NJ_wire_43 at hw
  refine mx_aload_n (r := some v0) hx hb d_NJ_wire_43 rfl (lv_at hl 0 rfl) ?_
  obtain ⟨t1, hw⟩ := hw
  refine mx_get (ci := 0) (C := "NetJoins") (T := F_NJ) (N := 18) hx hb hW hown hK.1 hR (a := v0) rfl t1 rfl i_NJ 1 2 (by decide) rfl kw_121 (fun _ h9 => h9) d_NJ_wire_44 ?_
  obtain ⟨a4, ea4, t5, hw⟩ := hw
  refine W.eq (g2 := F0 m 47 ls [va_rf (some a4)]) (by rw [← ea4] <;> rfl) ?_
  refine mx_calli (va_runV (b := a4) (As := []) (rest := []) ⟨hx, hb, hml, hown, hW⟩ (mt_AL_size l D cs Z _ hw) (mx_cwV hW ok_AL_size kw_192 rfl rfl ⟨Nat.le_of_ble_eq_true rfl, Nat.le_of_ble_eq_true rfl⟩) (mx_preV hK hZ hA hR (ci := 9) rfl t5) rfl rfl hl.1 rfl (lv_room (Nat.le_of_ble_eq_true rfl)) d_NJ_wire_47 ⟨Nat.le_of_ble_eq_true rfl, Nat.le_of_ble_eq_true rfl⟩) hR hA (fun r2 h3 H locs hw hR => ?_)
  try dsimp only at hw
  refine lv_istore (i := 10) (lv' := [(10, .int r2), (0, va_rf (some v0)), (1, .int x1), (2, .long x2), (4, .long x4), (6, .long x6), (8, .long x8)]) hx hb d_NJ_wire_50 hl (by decide) rfl (fun ls hl => ?_)
  refine lv_iload hx hb d_NJ_wire_52 (lv_at hl 0 rfl) ?_
  refine lv_bipush (v := 100) hx hb d_NJ_wire_54 (by decide) ?_
  refine lv_icmp_lt (tgt := 61) hx hb d_NJ_wire_56 (by decide) (fun c6 => ?_) (fun c6 => ?_)
  · have hw := hw.1 c6
    refine mx_new (ci := 7) (C := "NetJoins$Wire") (T := F_Wire) (N := 7) hx hb hW hown hK.1 hR hA rfl i_Wire t_Wire t_Wire_ok kw_259 kw_644 kw_21 (fun q j hj => nf_Wire _ q j hj) (by decide) (by decide) d_NJ_wire_61 (fun q7 H tq7 hR => ?_)
    refine W.widen (k := 5) (n := 31) (by decide) (by decide) ?_
    have hw := hw q7 tq7
    obtain ⟨h8, eh8⟩ : ∃ z, z = nH h3 q7 23 0 := ⟨_, rfl⟩
    rw [← eh8] at hR
    have hw := hw h8 eh8
    refine lv_dup hx hb d_NJ_wire_64 (mx_rf_cat _) ?_
    refine lv_iload_n hx hb d_NJ_wire_65 rfl (lv_at hl 2 rfl) ?_
    refine lv_iload hx hb d_NJ_wire_66 (lv_at hl 0 rfl) ?_
    refine lv_lload_n hx hb d_NJ_wire_68 rfl (lv_at hl 3 rfl) ?_
    refine lv_lload hx hb d_NJ_wire_69 (lv_at hl 4 rfl) ?_
    refine lv_lload hx hb d_NJ_wire_71 (lv_at hl 5 rfl) ?_
    refine lv_lload hx hb d_NJ_wire_73 (lv_at hl 6 rfl) ?_
    refine mx_callv (va_runI (b := q7) (As := [.int x1, .int r2, .long x2, .long x4, .long x6, .long x8]) (rest := [va_rf (some q7)]) ⟨hx, hb, hml, hown, hW⟩ (mt_Wire_init l D cs Z _ hw) (mx_cwI hW ok_Wire_init kw_645 rfl rfl ⟨Nat.le_of_ble_eq_true rfl, Nat.le_of_ble_eq_true rfl⟩) (mx_preS hK hZ hA hR) rfl rfl hl.1 rfl (lv_room (Nat.le_of_ble_eq_true rfl)) d_NJ_wire_75 ⟨Nat.le_of_ble_eq_true rfl, Nat.le_of_ble_eq_true rfl⟩) hR hA (fun h10 H locs hw hR => ?_)
    try dsimp only at hw
    refine mx_astore (i := 11) (r := some q7) (lv' := [(11, va_rf (some q7)), (10, .int r2), (0, va_rf (some v0)), (1, .int x1), (2, .long x2), (4, .long x4), (6, .long x6), (8, .long x8)]) hx hb d_NJ_wire_78 hl (by decide) rfl (fun ls hl => ?_)
    refine mx_aload_n (r := some v0) hx hb d_NJ_wire_80 rfl (lv_at hl 2 rfl) ?_
    obtain ⟨t11, hw⟩ := hw
    refine mx_get (ci := 0) (C := "NetJoins") (T := F_NJ) (N := 18) hx hb hW hown hK.1 hR (a := v0) rfl t11 rfl i_NJ 1 2 (by decide) rfl kw_121 (fun _ h9 => h9) d_NJ_wire_81 ?_
    refine mx_aload (r := some q7) hx hb d_NJ_wire_84 (lv_at hl 0 rfl) ?_
    obtain ⟨a14, ea14, t15, hw⟩ := hw
    refine W.eq (g2 := F0 m 86 ls [va_rf (some q7), va_rf (some a14)]) (by rw [← ea14] <;> rfl) ?_
    refine mx_calli (va_runV (b := a14) (As := [va_rf (some q7)]) (rest := []) ⟨hx, hb, hml, hown, hW⟩ (mt_AL_add2 l D cs Z _ hw) (mx_cwV hW ok_AL_add2 kw_546 rfl rfl ⟨Nat.le_of_ble_eq_true rfl, Nat.le_of_ble_eq_true rfl⟩) (mx_preV hK hZ hA hR (ci := 9) rfl t15) rfl rfl hl.1 rfl (lv_room (Nat.le_of_ble_eq_true rfl)) d_NJ_wire_86 ⟨Nat.le_of_ble_eq_true rfl, Nat.le_of_ble_eq_true rfl⟩) hR hA (fun r12 h13 H locs hw hR => ?_)
    refine W.widen (k := 6) (n := 231) (by decide) (by decide) ?_
    try dsimp only at hw
    refine lv_pop hx hb d_NJ_wire_89 rfl ?_
    refine mx_aload_n (r := some v0) hx hb d_NJ_wire_90 rfl (lv_at hl 2 rfl) ?_
    refine mx_aload (r := some q7) hx hb d_NJ_wire_91 (lv_at hl 0 rfl) ?_
    obtain ⟨t18, hw⟩ := hw
    refine mx_callv (va_runV (b := v0) (As := [va_rf (some q7)]) (rest := []) ⟨hx, hb, hml, hown, hW⟩ (mt_NJ_joinEnds l D cs Z _ hw) (mx_cwV hW ok_NJ_joinEnds kw_310 rfl rfl ⟨Nat.le_of_ble_eq_true rfl, Nat.le_of_ble_eq_true rfl⟩) (mx_preV hK hZ hA hR (ci := 0) rfl t18) rfl rfl hl.1 rfl (lv_room (Nat.le_of_ble_eq_true rfl)) d_NJ_wire_93 ⟨Nat.le_of_ble_eq_true rfl, Nat.le_of_ble_eq_true rfl⟩) hR hA (fun h17 H locs hw hR => ?_)
    try dsimp only at hw
    refine mx_aload_n (r := some v0) hx hb d_NJ_wire_96 rfl (lv_at hl 2 rfl) ?_
    refine mx_aload (r := some q7) hx hb d_NJ_wire_97 (lv_at hl 0 rfl) ?_
    obtain ⟨t21, hw⟩ := hw
    refine mx_callv (va_runV (b := v0) (As := [va_rf (some q7)]) (rest := []) ⟨hx, hb, hml, hown, hW⟩ (mt_NJ_joinThroughJunctions l D cs Z _ hw) (mx_cwV hW ok_NJ_joinThroughJunctions kw_674 rfl rfl ⟨Nat.le_of_ble_eq_true rfl, Nat.le_of_ble_eq_true rfl⟩) (mx_preV hK hZ hA hR (ci := 0) rfl t21) rfl rfl hl.1 rfl (lv_room (Nat.le_of_ble_eq_true rfl)) d_NJ_wire_99 ⟨Nat.le_of_ble_eq_true rfl, Nat.le_of_ble_eq_true rfl⟩) hR hA (fun h20 H locs hw hR => ?_)
    try dsimp only at hw
    refine mx_aload_n (r := some v0) hx hb d_NJ_wire_102 rfl (lv_at hl 2 rfl) ?_
    refine mx_aload (r := some q7) hx hb d_NJ_wire_103 (lv_at hl 0 rfl) ?_
    refine mx_aload_n (r := some v0) hx hb d_NJ_wire_105 rfl (lv_at hl 2 rfl) ?_
    obtain ⟨t22, hw⟩ := hw
    refine mx_get (ci := 0) (C := "NetJoins") (T := F_NJ) (N := 18) hx hb hW hown hK.1 hR (a := v0) rfl t22 rfl i_NJ 3 2 (by decide) rfl kw_123 (fun _ h9 => h9) d_NJ_wire_106 ?_
    obtain ⟨t25, hw⟩ := hw
    refine mx_callv (va_runV (b := v0) (As := [va_rf (some q7), va_rf (gR h20 3 v0)]) (rest := []) ⟨hx, hb, hml, hown, hW⟩ (mt_NJ_joinWithSpots l D cs Z _ hw) (mx_cwV hW ok_NJ_joinWithSpots kw_678 rfl rfl ⟨Nat.le_of_ble_eq_true rfl, Nat.le_of_ble_eq_true rfl⟩) (mx_preV hK hZ hA hR (ci := 0) rfl t25) rfl rfl hl.1 rfl (lv_room (Nat.le_of_ble_eq_true rfl)) d_NJ_wire_109 ⟨Nat.le_of_ble_eq_true rfl, Nat.le_of_ble_eq_true rfl⟩) hR hA (fun h24 H locs hw hR => ?_)
    try dsimp only at hw
    refine mx_aload_n (r := some v0) hx hb d_NJ_wire_112 rfl (lv_at hl 2 rfl) ?_
    refine mx_aload (r := some q7) hx hb d_NJ_wire_113 (lv_at hl 0 rfl) ?_
    refine mx_aload_n (r := some v0) hx hb d_NJ_wire_115 rfl (lv_at hl 2 rfl) ?_
    obtain ⟨t26, hw⟩ := hw
    refine mx_get (ci := 0) (C := "NetJoins") (T := F_NJ) (N := 18) hx hb hW hown hK.1 hR (a := v0) rfl t26 rfl i_NJ 5 2 (by decide) rfl kw_125 (fun _ h9 => h9) d_NJ_wire_116 ?_
    obtain ⟨t29, hw⟩ := hw
    refine mx_callv (va_runV (b := v0) (As := [va_rf (some q7), va_rf (gR h24 5 v0)]) (rest := []) ⟨hx, hb, hml, hown, hW⟩ (mt_NJ_joinWithSpots l D cs Z _ hw) (mx_cwV hW ok_NJ_joinWithSpots kw_678 rfl rfl ⟨Nat.le_of_ble_eq_true rfl, Nat.le_of_ble_eq_true rfl⟩) (mx_preV hK hZ hA hR (ci := 0) rfl t29) rfl rfl hl.1 rfl (lv_room (Nat.le_of_ble_eq_true rfl)) d_NJ_wire_119 ⟨Nat.le_of_ble_eq_true rfl, Nat.le_of_ble_eq_true rfl⟩) hR hA (fun h28 H locs hw hR => ?_)
    try dsimp only at hw
    refine mx_aload_n (r := some v0) hx hb d_NJ_wire_122 rfl (lv_at hl 2 rfl) ?_
    refine lv_iload_n hx hb d_NJ_wire_123 rfl (lv_at hl 3 rfl) ?_
    obtain ⟨t32, hw⟩ := hw
    refine mx_callv (va_runV (b := v0) (As := [.int x1]) (rest := []) ⟨hx, hb, hml, hown, hW⟩ (mt_NJ_spreadOver l D cs Z _ hw) (mx_cwV hW ok_NJ_spreadOver kw_682 rfl rfl ⟨Nat.le_of_ble_eq_true rfl, Nat.le_of_ble_eq_true rfl⟩) (mx_preV hK hZ hA hR (ci := 0) rfl t32) rfl rfl hl.1 rfl (lv_room (Nat.le_of_ble_eq_true rfl)) d_NJ_wire_124 ⟨Nat.le_of_ble_eq_true rfl, Nat.le_of_ble_eq_true rfl⟩) hR hA (fun h31 H locs hw hR => ?_)
    try dsimp only at hw
    refine mx_aload_n (r := some v0) hx hb d_NJ_wire_127 rfl (lv_at hl 2 rfl) ?_
    obtain ⟨t35, hw⟩ := hw
    refine mx_callv (va_runV (b := v0) (As := []) (rest := []) ⟨hx, hb, hml, hown, hW⟩ (mt_NJ_keepUp l D cs Z _ hw) (mx_cwV hW ok_NJ_keepUp kw_606 rfl rfl ⟨Nat.le_of_ble_eq_true rfl, Nat.le_of_ble_eq_true rfl⟩) (mx_preV hK hZ hA hR (ci := 0) rfl t35) rfl rfl hl.1 rfl (lv_room (Nat.le_of_ble_eq_true rfl)) d_NJ_wire_128 ⟨Nat.le_of_ble_eq_true rfl, Nat.le_of_ble_eq_true rfl⟩) hR hA (fun h34 H locs hw hR => ?_)
    try dsimp only at hw
    refine lv_iload hx hb d_NJ_wire_131 (lv_at hl 1 rfl) ?_
    exact t_ret (mx_iret hx hb hr hlocks hR hw d_NJ_wire_133)
  · have hw := hw.2 c6
    refine lv_iconst (v := (-1)) hx hb d_NJ_wire_59 (by decide) ?_
    refine W.widen (k := 6) (n := 231) (by decide) (by decide) ?_
    exact t_ret (mx_iret hx hb hr hlocks hR hw d_NJ_wire_60)
set_option maxHeartbeats 4000000 in
set_option maxRecDepth 100000 in
theorem mt_NJ_wire (l : Launch) (hlT : l.stackTraces = false) (D : va_G) (cs : CS) (Z : Nat → Nat) (sz : Nat) {post : Int32 → HS → Prop} {exc : Nat → HS → Prop} {h : HS} {v0 : Nat} {x1 : Int32} {x2 : Int64} {x4 : Int64} {x6 : Int64} {x8 : Int64} (hw : wp_NJ_wire Z post exc h v0 x1 x2 x4 x6 x8) : TMet l y_NJ_wire (Cond.code y_NJ_wire c_NJ_wire 12 (some .int) :: WA) ({ frames := 10, cells := 6, slots := 231, locals := 431 } : Room) D cs (mPc D cs Z h sz [va_rf (some v0), .int x1, .long x2, .long x4, .long x6, .long x8]) (va_Qi post (mB D cs h sz) (fA h sz)) exc h sz 6 231 := by
  refine mx_tmet (fun sz => va_Qi post (mB D cs h sz) (fA h sz)) (by decide) hlT (by simp [lg_sl, mx_rf_cat, cat_i, cat_l]) ?_
  intro p e s m args below meth c C hR ls hl
  have hl : lv_has ls 12 [(0, va_rf (some v0)), (1, .int x1), (2, .long x2), (4, .long x4), (6, .long x6), (8, .long x8)] := hl
  obtain ⟨⟨hx, hb, hr, hml, hown, hW, hlocks, hnm, hK, hZ⟩, hno, -⟩ := id C
  have hown : s.vm.findClass "NetJoins" = some m.cls := hown
  have hA : ∀ q, s.heap.size ≤ q → fA h s.heap.size q := fun _ h => Or.inr h
  unfold wp_NJ_wire at hw
  refine mx_aload_n (r := some v0) hx hb d_NJ_wire_0 rfl (lv_at hl 0 rfl) ?_
  refine lv_iload_n hx hb d_NJ_wire_1 rfl (lv_at hl 1 rfl) ?_
  obtain ⟨t3, hw⟩ := hw
  refine mx_tcallV (As := [.int x1]) (rest := []) (b := v0) (ci := 0) hx hb hml hown hW hK hZ hlocks hno hR hA ok_NJ_needDrawn kw_496 (mt_NJ_needDrawn l hlT D cs Z _ hw) rfl rfl ⟨Nat.le_of_ble_eq_true rfl, Nat.le_of_ble_eq_true rfl⟩ rfl t3 rfl hl.1 rfl (Nat.le_of_ble_eq_true rfl) d_NJ_wire_2 ⟨Nat.le_of_ble_eq_true rfl, Nat.le_of_ble_eq_true rfl⟩ ⟨by decide, by decide⟩ (fun h2 H locs hw hR => ?_)
  refine W.widen (k := 2) (n := 12) (by decide) (by decide) ?_
  try dsimp only at hw
  refine lv_lload_n hx hb d_NJ_wire_5 rfl (lv_at hl 2 rfl) ?_
  refine lv_lload hx hb d_NJ_wire_6 (lv_at hl 3 rfl) ?_
  refine mx_tcallS (As := [.long x2, .long x4]) (rest := []) hx hb hml hown hW hK hZ hlocks hno hR hA ok_NJ_needPlace kw_622 (mt_NJ_needPlace l hlT D cs Z _ hw) rfl rfl ⟨Nat.le_of_ble_eq_true rfl, Nat.le_of_ble_eq_true rfl⟩ rfl hl.1 rfl (Nat.le_of_ble_eq_true rfl) d_NJ_wire_8 ⟨Nat.le_of_ble_eq_true rfl, Nat.le_of_ble_eq_true rfl⟩ ⟨by decide, by decide⟩ (fun h5 H locs hw hR => ?_)
  refine W.widen (k := 3) (n := 18) (by decide) (by decide) ?_
  try dsimp only at hw
  refine lv_lload hx hb d_NJ_wire_11 (lv_at hl 4 rfl) ?_
  refine lv_lload hx hb d_NJ_wire_13 (lv_at hl 5 rfl) ?_
  refine mx_tcallS (As := [.long x6, .long x8]) (rest := []) hx hb hml hown hW hK hZ hlocks hno hR hA ok_NJ_needPlace kw_622 (mt_NJ_needPlace l hlT D cs Z _ hw) rfl rfl ⟨Nat.le_of_ble_eq_true rfl, Nat.le_of_ble_eq_true rfl⟩ rfl hl.1 rfl (Nat.le_of_ble_eq_true rfl) d_NJ_wire_15 ⟨Nat.le_of_ble_eq_true rfl, Nat.le_of_ble_eq_true rfl⟩ ⟨by decide, by decide⟩ (fun h7 H locs hw hR => ?_)
  refine W.widen (k := 4) (n := 24) (by decide) (by decide) ?_
  try dsimp only at hw
  refine lv_lload_n hx hb d_NJ_wire_18 rfl (lv_at hl 2 rfl) ?_
  refine lv_lload hx hb d_NJ_wire_19 (lv_at hl 4 rfl) ?_
  refine W.lcmp hx hb d_NJ_wire_21 ?_
  refine lv_if_ne (tgt := 43) hx hb d_NJ_wire_22 (by decide) (fun c8 => ?_) (fun c8 => ?_)
  · have hw := hw.1 c8
    exact mn_NJ_wire_43 C post exc x1 x2 x4 x6 x8 _ _ _ _ hw (lv_sub hl [0, 1, 2, 3, 4, 5] rfl) hR
  · have hw := hw.2 c8
    refine lv_lload hx hb d_NJ_wire_25 (lv_at hl 3 rfl) ?_
    refine lv_lload hx hb d_NJ_wire_27 (lv_at hl 5 rfl) ?_
    refine W.lcmp hx hb d_NJ_wire_29 ?_
    refine lv_if_ne (tgt := 43) hx hb d_NJ_wire_30 (by decide) (fun c9 => ?_) (fun c9 => ?_)
    · have hw := hw.1 c9
      exact mn_NJ_wire_43 C post exc x1 x2 x4 x6 x8 _ _ _ _ hw (lv_sub hl [0, 1, 2, 3, 4, 5] rfl) hR
    · have hw := hw.2 c9
      exact mx_throw (k := 3) (ic := 114) (ik := 110) (is := 112) (n4 := 2) (tx := "both ends of the wire are the same place") hx hb hlT hown hW hK hZ hlocks hno (hl.1.trans hml.symm) hR t_at3 (by decide) (by decide +kernel) kw_627 kw_20 (by decide) d_NJ_wire_33 d_NJ_wire_36 (Or.inl ⟨d_NJ_wire_37, rfl⟩) d_NJ_wire_39 d_NJ_wire_42 (by decide) (Nat.le_of_ble_eq_true rfl) (by decide) (by decide) (by decide) (by decide) hw
set_option maxHeartbeats 4000000 in
set_option maxRecDepth 100000 in
theorem mt_NJ_junction (l : Launch) (hlT : l.stackTraces = false) (D : va_G) (cs : CS) (Z : Nat → Nat) (sz : Nat) {post : Int32 → HS → Prop} {exc : Nat → HS → Prop} {h : HS} {v0 : Nat} {x1 : Int32} {x2 : Int64} {x4 : Int64} (hw : wp_NJ_junction Z post exc h v0 x1 x2 x4) : TMet l y_NJ_junction (Cond.code y_NJ_junction c_NJ_junction 7 (some .boolean) :: WA) ({ frames := 10, cells := 5, slots := 224, locals := 431 } : Room) D cs (mPc D cs Z h sz [va_rf (some v0), .int x1, .long x2, .long x4]) (va_Qi post (mB D cs h sz) (fA h sz)) exc h sz 5 224 := by
  refine mx_tmet (fun sz => va_Qi post (mB D cs h sz) (fA h sz)) (by decide) hlT (by simp [lg_sl, mx_rf_cat, cat_i, cat_l]) ?_
  intro p e s m args below meth c C hR ls hl
  have hl : lv_has ls 7 [(0, va_rf (some v0)), (1, .int x1), (2, .long x2), (4, .long x4)] := hl
  obtain ⟨⟨hx, hb, hr, hml, hown, hW, hlocks, hnm, hK, hZ⟩, hno, -⟩ := id C
  have hown : s.vm.findClass "NetJoins" = some m.cls := hown
  have hA : ∀ q, s.heap.size ≤ q → fA h s.heap.size q := fun _ h => Or.inr h
  unfold wp_NJ_junction at hw
  refine mx_aload_n (r := some v0) hx hb d_NJ_junction_0 rfl (lv_at hl 0 rfl) ?_
  refine lv_iload_n hx hb d_NJ_junction_1 rfl (lv_at hl 1 rfl) ?_
  obtain ⟨t3, hw⟩ := hw
  refine mx_tcallV (As := [.int x1]) (rest := []) (b := v0) (ci := 0) hx hb hml hown hW hK hZ hlocks hno hR hA ok_NJ_needDrawn kw_496 (mt_NJ_needDrawn l hlT D cs Z _ hw) rfl rfl ⟨Nat.le_of_ble_eq_true rfl, Nat.le_of_ble_eq_true rfl⟩ rfl t3 rfl hl.1 rfl (Nat.le_of_ble_eq_true rfl) d_NJ_junction_2 ⟨Nat.le_of_ble_eq_true rfl, Nat.le_of_ble_eq_true rfl⟩ ⟨by decide, by decide⟩ (fun h2 H locs hw hR => ?_)
  refine W.widen (k := 2) (n := 12) (by decide) (by decide) ?_
  try dsimp only at hw
  refine lv_lload_n hx hb d_NJ_junction_5 rfl (lv_at hl 2 rfl) ?_
  refine lv_lload hx hb d_NJ_junction_6 (lv_at hl 3 rfl) ?_
  refine mx_tcallS (As := [.long x2, .long x4]) (rest := []) hx hb hml hown hW hK hZ hlocks hno hR hA ok_NJ_needPlace kw_622 (mt_NJ_needPlace l hlT D cs Z _ hw) rfl rfl ⟨Nat.le_of_ble_eq_true rfl, Nat.le_of_ble_eq_true rfl⟩ rfl hl.1 rfl (Nat.le_of_ble_eq_true rfl) d_NJ_junction_8 ⟨Nat.le_of_ble_eq_true rfl, Nat.le_of_ble_eq_true rfl⟩ ⟨by decide, by decide⟩ (fun h5 H locs hw hR => ?_)
  refine W.widen (k := 3) (n := 18) (by decide) (by decide) ?_
  try dsimp only at hw
  refine mx_aload_n (r := some v0) hx hb d_NJ_junction_11 rfl (lv_at hl 0 rfl) ?_
  obtain ⟨t6, hw⟩ := hw
  refine mx_get (ci := 0) (C := "NetJoins") (T := F_NJ) (N := 18) hx hb hW hown hK.1 hR (a := v0) rfl t6 rfl i_NJ 2 2 (by decide) rfl kw_122 (fun _ h9 => h9) d_NJ_junction_12 ?_
  obtain ⟨a9, ea9, t10, hw⟩ := hw
  refine W.eq (g2 := F0 m 15 ls [va_rf (some a9)]) (by rw [← ea9] <;> rfl) ?_
  refine mx_calli (va_runV (b := a9) (As := []) (rest := []) ⟨hx, hb, hml, hown, hW⟩ (mt_AL_size l D cs Z _ hw) (mx_cwV hW ok_AL_size kw_192 rfl rfl ⟨Nat.le_of_ble_eq_true rfl, Nat.le_of_ble_eq_true rfl⟩) (mx_preV hK hZ hA hR (ci := 9) rfl t10) rfl rfl hl.1 rfl (lv_room (Nat.le_of_ble_eq_true rfl)) d_NJ_junction_15 ⟨Nat.le_of_ble_eq_true rfl, Nat.le_of_ble_eq_true rfl⟩) hR hA (fun r7 h8 H locs hw hR => ?_)
  try dsimp only at hw
  refine lv_bipush (v := 50) hx hb d_NJ_junction_18 (by decide) ?_
  refine lv_icmp_ge (tgt := 37) hx hb d_NJ_junction_20 (by decide) (fun c11 => ?_) (fun c11 => ?_)
  · have hw := hw.1 c11
    refine lv_iconst (v := 0) hx hb d_NJ_junction_37 (by decide) ?_
    refine W.widen (k := 5) (n := 224) (by decide) (by decide) ?_
    exact t_ret (mx_zret hx hb hr hlocks hR (Or.inl rfl) hw d_NJ_junction_38)
  · have hw := hw.2 c11
    refine mx_aload_n (r := some v0) hx hb d_NJ_junction_23 rfl (lv_at hl 0 rfl) ?_
    obtain ⟨t12, hw⟩ := hw
    refine mx_get (ci := 0) (C := "NetJoins") (T := F_NJ) (N := 18) hx hb hW hown hK.1 hR (a := v0) rfl t12 rfl i_NJ 2 2 (by decide) rfl kw_122 (fun _ h9 => h9) d_NJ_junction_24 ?_
    refine lv_iload_n hx hb d_NJ_junction_27 rfl (lv_at hl 1 rfl) ?_
    refine lv_lload_n hx hb d_NJ_junction_28 rfl (lv_at hl 2 rfl) ?_
    refine lv_lload hx hb d_NJ_junction_29 (lv_at hl 3 rfl) ?_
    refine mx_calli (va_runS (As := [va_rf (gR h8 2 v0), .int x1, .long x2, .long x4]) (rest := []) ⟨hx, hb, hml, hown, hW⟩ (mt_NJ_hasSpotAt l D cs Z _ hw) (mx_cwS hW ok_NJ_hasSpotAt kw_252 rfl rfl ⟨Nat.le_of_ble_eq_true rfl, Nat.le_of_ble_eq_true rfl⟩) (mx_preS hK hZ hA hR) rfl rfl hl.1 rfl (lv_room (Nat.le_of_ble_eq_true rfl)) d_NJ_junction_31 ⟨Nat.le_of_ble_eq_true rfl, Nat.le_of_ble_eq_true rfl⟩) hR hA (fun r13 h14 H locs hw hR => ?_)
    try dsimp only at hw
    refine lv_if_eq (tgt := 39) hx hb d_NJ_junction_34 (by decide) (fun c15 => ?_) (fun c15 => ?_)
    · have hw := hw.1 c15
      refine mx_new (ci := 6) (C := "NetJoins$Spot") (T := F_Spot) (N := 6) hx hb hW hown hK.1 hR hA rfl i_Spot t_Spot t_Spot_ok kw_210 kw_693 kw_22 (fun q j hj => nf_Spot _ q j hj) (by decide) (by decide) d_NJ_junction_39 (fun q16 H tq16 hR => ?_)
      refine W.widen (k := 4) (n := 24) (by decide) (by decide) ?_
      have hw := hw q16 tq16
      obtain ⟨h17, eh17⟩ : ∃ z, z = nH h14 q16 22 0 := ⟨_, rfl⟩
      rw [← eh17] at hR
      have hw := hw h17 eh17
      refine lv_dup hx hb d_NJ_junction_42 (mx_rf_cat _) ?_
      refine lv_iload_n hx hb d_NJ_junction_43 rfl (lv_at hl 1 rfl) ?_
      refine lv_lload_n hx hb d_NJ_junction_44 rfl (lv_at hl 2 rfl) ?_
      refine lv_lload hx hb d_NJ_junction_45 (lv_at hl 3 rfl) ?_
      refine lv_iconst (v := (-1)) hx hb d_NJ_junction_47 (by decide) ?_
      refine lv_iconst (v := (-1)) hx hb d_NJ_junction_48 (by decide) ?_
      refine mx_callv (va_runI (b := q16) (As := [.int x1, .long x2, .long x4, .int (-1 : Int32), .int (-1 : Int32)]) (rest := [va_rf (some q16)]) ⟨hx, hb, hml, hown, hW⟩ (mt_Spot_init l D cs Z _ hw) (mx_cwI hW ok_Spot_init kw_694 rfl rfl ⟨Nat.le_of_ble_eq_true rfl, Nat.le_of_ble_eq_true rfl⟩) (mx_preS hK hZ hA hR) rfl rfl hl.1 rfl (lv_room (Nat.le_of_ble_eq_true rfl)) d_NJ_junction_49 ⟨Nat.le_of_ble_eq_true rfl, Nat.le_of_ble_eq_true rfl⟩) hR hA (fun h19 H locs hw hR => ?_)
      try dsimp only at hw
      refine mx_astore (i := 6) (r := some q16) (lv' := [(6, va_rf (some q16)), (0, va_rf (some v0)), (1, .int x1), (2, .long x2), (4, .long x4)]) hx hb d_NJ_junction_52 hl (by decide) rfl (fun ls hl => ?_)
      refine mx_aload_n (r := some v0) hx hb d_NJ_junction_54 rfl (lv_at hl 1 rfl) ?_
      obtain ⟨t20, hw⟩ := hw
      refine mx_get (ci := 0) (C := "NetJoins") (T := F_NJ) (N := 18) hx hb hW hown hK.1 hR (a := v0) rfl t20 rfl i_NJ 2 2 (by decide) rfl kw_122 (fun _ h9 => h9) d_NJ_junction_55 ?_
      refine mx_aload (r := some q16) hx hb d_NJ_junction_58 (lv_at hl 0 rfl) ?_
      obtain ⟨a23, ea23, t24, hw⟩ := hw
      refine W.eq (g2 := F0 m 60 ls [va_rf (some q16), va_rf (some a23)]) (by rw [← ea23] <;> rfl) ?_
      refine mx_calli (va_runV (b := a23) (As := [va_rf (some q16)]) (rest := []) ⟨hx, hb, hml, hown, hW⟩ (mt_AL_add2 l D cs Z _ hw) (mx_cwV hW ok_AL_add2 kw_546 rfl rfl ⟨Nat.le_of_ble_eq_true rfl, Nat.le_of_ble_eq_true rfl⟩) (mx_preV hK hZ hA hR (ci := 9) rfl t24) rfl rfl hl.1 rfl (lv_room (Nat.le_of_ble_eq_true rfl)) d_NJ_junction_60 ⟨Nat.le_of_ble_eq_true rfl, Nat.le_of_ble_eq_true rfl⟩) hR hA (fun r21 h22 H locs hw hR => ?_)
      refine W.widen (k := 5) (n := 224) (by decide) (by decide) ?_
      try dsimp only at hw
      refine lv_pop hx hb d_NJ_junction_63 rfl ?_
      refine mx_aload_n (r := some v0) hx hb d_NJ_junction_64 rfl (lv_at hl 1 rfl) ?_
      refine mx_aload (r := some q16) hx hb d_NJ_junction_65 (lv_at hl 0 rfl) ?_
      obtain ⟨t27, hw⟩ := hw
      refine mx_callv (va_runV (b := v0) (As := [va_rf (some q16)]) (rest := []) ⟨hx, hb, hml, hown, hW⟩ (mt_NJ_joinJunction l D cs Z _ hw) (mx_cwV hW ok_NJ_joinJunction kw_336 rfl rfl ⟨Nat.le_of_ble_eq_true rfl, Nat.le_of_ble_eq_true rfl⟩) (mx_preV hK hZ hA hR (ci := 0) rfl t27) rfl rfl hl.1 rfl (lv_room (Nat.le_of_ble_eq_true rfl)) d_NJ_junction_67 ⟨Nat.le_of_ble_eq_true rfl, Nat.le_of_ble_eq_true rfl⟩) hR hA (fun h26 H locs hw hR => ?_)
      try dsimp only at hw
      refine mx_aload_n (r := some v0) hx hb d_NJ_junction_70 rfl (lv_at hl 1 rfl) ?_
      refine lv_iload_n hx hb d_NJ_junction_71 rfl (lv_at hl 2 rfl) ?_
      obtain ⟨t30, hw⟩ := hw
      refine mx_callv (va_runV (b := v0) (As := [.int x1]) (rest := []) ⟨hx, hb, hml, hown, hW⟩ (mt_NJ_spreadOver l D cs Z _ hw) (mx_cwV hW ok_NJ_spreadOver kw_682 rfl rfl ⟨Nat.le_of_ble_eq_true rfl, Nat.le_of_ble_eq_true rfl⟩) (mx_preV hK hZ hA hR (ci := 0) rfl t30) rfl rfl hl.1 rfl (lv_room (Nat.le_of_ble_eq_true rfl)) d_NJ_junction_72 ⟨Nat.le_of_ble_eq_true rfl, Nat.le_of_ble_eq_true rfl⟩) hR hA (fun h29 H locs hw hR => ?_)
      try dsimp only at hw
      refine mx_aload_n (r := some v0) hx hb d_NJ_junction_75 rfl (lv_at hl 1 rfl) ?_
      obtain ⟨t33, hw⟩ := hw
      refine mx_callv (va_runV (b := v0) (As := []) (rest := []) ⟨hx, hb, hml, hown, hW⟩ (mt_NJ_keepUp l D cs Z _ hw) (mx_cwV hW ok_NJ_keepUp kw_606 rfl rfl ⟨Nat.le_of_ble_eq_true rfl, Nat.le_of_ble_eq_true rfl⟩) (mx_preV hK hZ hA hR (ci := 0) rfl t33) rfl rfl hl.1 rfl (lv_room (Nat.le_of_ble_eq_true rfl)) d_NJ_junction_76 ⟨Nat.le_of_ble_eq_true rfl, Nat.le_of_ble_eq_true rfl⟩) hR hA (fun h32 H locs hw hR => ?_)
      try dsimp only at hw
      refine lv_iconst (v := 1) hx hb d_NJ_junction_79 (by decide) ?_
      exact t_ret (mx_zret hx hb hr hlocks hR (Or.inr rfl) hw d_NJ_junction_80)
    · have hw := hw.2 c15
      refine lv_iconst (v := 0) hx hb d_NJ_junction_37 (by decide) ?_
      refine W.widen (k := 5) (n := 224) (by decide) (by decide) ?_
      exact t_ret (mx_zret hx hb hr hlocks hR (Or.inl rfl) hw d_NJ_junction_38)
set_option maxHeartbeats 4000000 in
set_option maxRecDepth 100000 in
theorem mt_NJ_needName (l : Launch) (hlT : l.stackTraces = false) (D : va_G) (cs : CS) (Z : Nat → Nat) (sz : Nat) {post : HS → Prop} {exc : Nat → HS → Prop} {h : HS} {x0 : Int32} (hw : wp_NJ_needName Z post exc h x0) : TMet l y_NJ_needName (Cond.code y_NJ_needName c_NJ_needName 1 none :: WA) ({ frames := 8, cells := 1, slots := 6, locals := 200 } : Room) D cs (mPc D cs Z h sz [.int x0]) (va_Qv post (mB D cs h sz) (fA h sz)) exc h sz 1 6 := by
  refine mx_tmet (fun sz => va_Qv post (mB D cs h sz) (fA h sz)) (by decide) hlT (by simp [lg_sl, mx_rf_cat, cat_i, cat_l]) ?_
  intro p e s m args below meth c C hR ls hl
  have hl : lv_has ls 1 [(0, .int x0)] := hl
  obtain ⟨⟨hx, hb, hr, hml, hown, hW, hlocks, hnm, hK, hZ⟩, hno, -⟩ := id C
  have hown : s.vm.findClass "NetJoins" = some m.cls := hown
  have hA : ∀ q, s.heap.size ≤ q → fA h s.heap.size q := fun _ h => Or.inr h
  unfold wp_NJ_needName at hw
  refine lv_iload_n hx hb d_NJ_needName_0 rfl (lv_at hl 0 rfl) ?_
  refine lv_if_lt (tgt := 11) hx hb d_NJ_needName_1 (by decide) (fun c1 => ?_) (fun c1 => ?_)
  · have hw := hw.1 c1
    exact mx_throw (k := 3) (ic := 114) (ik := 110) (is := 301) (n4 := 3) (tx := "no name") hx hb hlT hown hW hK hZ hlocks hno (hl.1.trans hml.symm) hR t_at3 (by decide) (by decide +kernel) kw_627 kw_20 (by decide) d_NJ_needName_11 d_NJ_needName_14 (Or.inr ⟨d_NJ_needName_15, rfl⟩) d_NJ_needName_18 d_NJ_needName_21 (by decide) (Nat.le_of_ble_eq_true rfl) (by decide) (by decide) (by decide) (by decide) hw
  · have hw := hw.2 c1
    refine lv_iload_n hx hb d_NJ_needName_4 rfl (lv_at hl 0 rfl) ?_
    refine lv_sipush (v := 1000) hx hb d_NJ_needName_5 (by decide) ?_
    refine lv_icmp_lt (tgt := 22) hx hb d_NJ_needName_8 (by decide) (fun c2 => ?_) (fun c2 => ?_)
    · have hw := hw.1 c2
      refine W.widen (k := 1) (n := 6) (by decide) (by decide) ?_
      exact t_ret (mx_vret hx hb hr hlocks hR hw d_NJ_needName_22)
    · have hw := hw.2 c2
      exact mx_throw (k := 3) (ic := 114) (ik := 110) (is := 301) (n4 := 3) (tx := "no name") hx hb hlT hown hW hK hZ hlocks hno (hl.1.trans hml.symm) hR t_at3 (by decide) (by decide +kernel) kw_627 kw_20 (by decide) d_NJ_needName_11 d_NJ_needName_14 (Or.inr ⟨d_NJ_needName_15, rfl⟩) d_NJ_needName_18 d_NJ_needName_21 (by decide) (Nat.le_of_ble_eq_true rfl) (by decide) (by decide) (by decide) (by decide) hw
set_option maxHeartbeats 4000000 in
set_option maxRecDepth 100000 in
theorem mt_NJ_label (l : Launch) (hlT : l.stackTraces = false) (D : va_G) (cs : CS) (Z : Nat → Nat) (sz : Nat) {post : Int32 → HS → Prop} {exc : Nat → HS → Prop} {h : HS} {v0 : Nat} {x1 : Int32} {x2 : Int64} {x4 : Int64} {x6 : Int32} (hw : wp_NJ_label Z post exc h v0 x1 x2 x4 x6) : TMet l y_NJ_label (Cond.code y_NJ_label c_NJ_label 9 (some .int) :: WA) ({ frames := 10, cells := 8, slots := 436, locals := 433 } : Room) D cs (mPc D cs Z h sz [va_rf (some v0), .int x1, .long x2, .long x4, .int x6]) (va_Qi post (mB D cs h sz) (fA h sz)) exc h sz 8 436 := by
  refine mx_tmet (fun sz => va_Qi post (mB D cs h sz) (fA h sz)) (by decide) hlT (by simp [lg_sl, mx_rf_cat, cat_i, cat_l]) ?_
  intro p e s m args below meth c C hR ls hl
  have hl : lv_has ls 9 [(0, va_rf (some v0)), (1, .int x1), (2, .long x2), (4, .long x4), (6, .int x6)] := hl
  obtain ⟨⟨hx, hb, hr, hml, hown, hW, hlocks, hnm, hK, hZ⟩, hno, -⟩ := id C
  have hown : s.vm.findClass "NetJoins" = some m.cls := hown
  have hA : ∀ q, s.heap.size ≤ q → fA h s.heap.size q := fun _ h => Or.inr h
  unfold wp_NJ_label at hw
  refine mx_aload_n (r := some v0) hx hb d_NJ_label_0 rfl (lv_at hl 0 rfl) ?_
  refine lv_iload_n hx hb d_NJ_label_1 rfl (lv_at hl 1 rfl) ?_
  obtain ⟨t3, hw⟩ := hw
  refine mx_tcallV (As := [.int x1]) (rest := []) (b := v0) (ci := 0) hx hb hml hown hW hK hZ hlocks hno hR hA ok_NJ_needDrawn kw_496 (mt_NJ_needDrawn l hlT D cs Z _ hw) rfl rfl ⟨Nat.le_of_ble_eq_true rfl, Nat.le_of_ble_eq_true rfl⟩ rfl t3 rfl hl.1 rfl (Nat.le_of_ble_eq_true rfl) d_NJ_label_2 ⟨Nat.le_of_ble_eq_true rfl, Nat.le_of_ble_eq_true rfl⟩ ⟨by decide, by decide⟩ (fun h2 H locs hw hR => ?_)
  refine W.widen (k := 2) (n := 12) (by decide) (by decide) ?_
  try dsimp only at hw
  refine lv_lload_n hx hb d_NJ_label_5 rfl (lv_at hl 2 rfl) ?_
  refine lv_lload hx hb d_NJ_label_6 (lv_at hl 3 rfl) ?_
  refine mx_tcallS (As := [.long x2, .long x4]) (rest := []) hx hb hml hown hW hK hZ hlocks hno hR hA ok_NJ_needPlace kw_622 (mt_NJ_needPlace l hlT D cs Z _ hw) rfl rfl ⟨Nat.le_of_ble_eq_true rfl, Nat.le_of_ble_eq_true rfl⟩ rfl hl.1 rfl (Nat.le_of_ble_eq_true rfl) d_NJ_label_8 ⟨Nat.le_of_ble_eq_true rfl, Nat.le_of_ble_eq_true rfl⟩ ⟨by decide, by decide⟩ (fun h5 H locs hw hR => ?_)
  refine W.widen (k := 3) (n := 18) (by decide) (by decide) ?_
  try dsimp only at hw
  refine lv_iload hx hb d_NJ_label_11 (lv_at hl 4 rfl) ?_
  refine mx_tcallS (As := [.int x6]) (rest := []) hx hb hml hown hW hK hZ hlocks hno hR hA ok_NJ_needName kw_732 (mt_NJ_needName l hlT D cs Z _ hw) rfl rfl ⟨Nat.le_of_ble_eq_true rfl, Nat.le_of_ble_eq_true rfl⟩ rfl hl.1 rfl (Nat.le_of_ble_eq_true rfl) d_NJ_label_13 ⟨Nat.le_of_ble_eq_true rfl, Nat.le_of_ble_eq_true rfl⟩ ⟨by decide, by decide⟩ (fun h7 H locs hw hR => ?_)
  refine W.widen (k := 4) (n := 24) (by decide) (by decide) ?_
  try dsimp only at hw
  refine mx_aload_n (r := some v0) hx hb d_NJ_label_16 rfl (lv_at hl 0 rfl) ?_
  obtain ⟨t8, hw⟩ := hw
  refine mx_get (ci := 0) (C := "NetJoins") (T := F_NJ) (N := 18) hx hb hW hown hK.1 hR (a := v0) rfl t8 rfl i_NJ 3 2 (by decide) rfl kw_123 (fun _ h9 => h9) d_NJ_label_17 ?_
  obtain ⟨a11, ea11, t12, hw⟩ := hw
  refine W.eq (g2 := F0 m 20 ls [va_rf (some a11)]) (by rw [← ea11] <;> rfl) ?_
  refine mx_calli (va_runV (b := a11) (As := []) (rest := []) ⟨hx, hb, hml, hown, hW⟩ (mt_AL_size l D cs Z _ hw) (mx_cwV hW ok_AL_size kw_192 rfl rfl ⟨Nat.le_of_ble_eq_true rfl, Nat.le_of_ble_eq_true rfl⟩) (mx_preV hK hZ hA hR (ci := 9) rfl t12) rfl rfl hl.1 rfl (lv_room (Nat.le_of_ble_eq_true rfl)) d_NJ_label_20 ⟨Nat.le_of_ble_eq_true rfl, Nat.le_of_ble_eq_true rfl⟩) hR hA (fun r9 h10 H locs hw hR => ?_)
  try dsimp only at hw
  refine lv_istore (i := 7) (lv' := [(7, .int r9), (0, va_rf (some v0)), (1, .int x1), (2, .long x2), (4, .long x4), (6, .int x6)]) hx hb d_NJ_label_23 hl (by decide) rfl (fun ls hl => ?_)
  refine lv_iload hx hb d_NJ_label_25 (lv_at hl 0 rfl) ?_
  refine lv_bipush (v := 60) hx hb d_NJ_label_27 (by decide) ?_
  refine lv_icmp_lt (tgt := 34) hx hb d_NJ_label_29 (by decide) (fun c13 => ?_) (fun c13 => ?_)
  · have hw := hw.1 c13
    refine mx_new (ci := 6) (C := "NetJoins$Spot") (T := F_Spot) (N := 6) hx hb hW hown hK.1 hR hA rfl i_Spot t_Spot t_Spot_ok kw_210 kw_693 kw_22 (fun q j hj => nf_Spot _ q j hj) (by decide) (by decide) d_NJ_label_34 (fun q14 H tq14 hR => ?_)
    refine W.widen (k := 5) (n := 30) (by decide) (by decide) ?_
    have hw := hw q14 tq14
    obtain ⟨h15, eh15⟩ : ∃ z, z = nH h10 q14 22 0 := ⟨_, rfl⟩
    rw [← eh15] at hR
    have hw := hw h15 eh15
    refine lv_dup hx hb d_NJ_label_37 (mx_rf_cat _) ?_
    refine lv_iload_n hx hb d_NJ_label_38 rfl (lv_at hl 2 rfl) ?_
    refine lv_lload_n hx hb d_NJ_label_39 rfl (lv_at hl 3 rfl) ?_
    refine lv_lload hx hb d_NJ_label_40 (lv_at hl 4 rfl) ?_
    refine lv_iload hx hb d_NJ_label_42 (lv_at hl 5 rfl) ?_
    refine lv_bipush (v := 60) hx hb d_NJ_label_44 (by decide) ?_
    refine lv_iload hx hb d_NJ_label_46 (lv_at hl 0 rfl) ?_
    refine lv_iadd hx hb d_NJ_label_48 ?_
    refine mx_callv (va_runI (b := q14) (As := [.int x1, .long x2, .long x4, .int x6, .int ((60 : Int32) + r9)]) (rest := [va_rf (some q14)]) ⟨hx, hb, hml, hown, hW⟩ (mt_Spot_init l D cs Z _ hw) (mx_cwI hW ok_Spot_init kw_694 rfl rfl ⟨Nat.le_of_ble_eq_true rfl, Nat.le_of_ble_eq_true rfl⟩) (mx_preS hK hZ hA hR) rfl rfl hl.1 rfl (lv_room (Nat.le_of_ble_eq_true rfl)) d_NJ_label_49 ⟨Nat.le_of_ble_eq_true rfl, Nat.le_of_ble_eq_true rfl⟩) hR hA (fun h17 H locs hw hR => ?_)
    try dsimp only at hw
    refine mx_astore (i := 8) (r := some q14) (lv' := [(8, va_rf (some q14)), (7, .int r9), (0, va_rf (some v0)), (1, .int x1), (2, .long x2), (4, .long x4), (6, .int x6)]) hx hb d_NJ_label_52 hl (by decide) rfl (fun ls hl => ?_)
    refine mx_aload_n (r := some v0) hx hb d_NJ_label_54 rfl (lv_at hl 2 rfl) ?_
    obtain ⟨t18, hw⟩ := hw
    refine mx_get (ci := 0) (C := "NetJoins") (T := F_NJ) (N := 18) hx hb hW hown hK.1 hR (a := v0) rfl t18 rfl i_NJ 3 2 (by decide) rfl kw_123 (fun _ h9 => h9) d_NJ_label_55 ?_
    refine mx_aload (r := some q14) hx hb d_NJ_label_58 (lv_at hl 0 rfl) ?_
    obtain ⟨a21, ea21, t22, hw⟩ := hw
    refine W.eq (g2 := F0 m 60 ls [va_rf (some q14), va_rf (some a21)]) (by rw [← ea21] <;> rfl) ?_
    refine mx_calli (va_runV (b := a21) (As := [va_rf (some q14)]) (rest := []) ⟨hx, hb, hml, hown, hW⟩ (mt_AL_add2 l D cs Z _ hw) (mx_cwV hW ok_AL_add2 kw_546 rfl rfl ⟨Nat.le_of_ble_eq_true rfl, Nat.le_of_ble_eq_true rfl⟩) (mx_preV hK hZ hA hR (ci := 9) rfl t22) rfl rfl hl.1 rfl (lv_room (Nat.le_of_ble_eq_true rfl)) d_NJ_label_60 ⟨Nat.le_of_ble_eq_true rfl, Nat.le_of_ble_eq_true rfl⟩) hR hA (fun r19 h20 H locs hw hR => ?_)
    refine W.widen (k := 6) (n := 230) (by decide) (by decide) ?_
    try dsimp only at hw
    refine lv_pop hx hb d_NJ_label_63 rfl ?_
    refine mx_aload_n (r := some v0) hx hb d_NJ_label_64 rfl (lv_at hl 2 rfl) ?_
    refine mx_aload (r := some q14) hx hb d_NJ_label_65 (lv_at hl 0 rfl) ?_
    obtain ⟨t25, hw⟩ := hw
    refine mx_callv (va_runV (b := v0) (As := [va_rf (some q14)]) (rest := []) ⟨hx, hb, hml, hown, hW⟩ (mt_NJ_putByName l D cs Z _ hw) (mx_cwV hW ok_NJ_putByName kw_736 rfl rfl ⟨Nat.le_of_ble_eq_true rfl, Nat.le_of_ble_eq_true rfl⟩) (mx_preV hK hZ hA hR (ci := 0) rfl t25) rfl rfl hl.1 rfl (lv_room (Nat.le_of_ble_eq_true rfl)) d_NJ_label_67 ⟨Nat.le_of_ble_eq_true rfl, Nat.le_of_ble_eq_true rfl⟩) hR hA (fun h24 H locs hw hR => ?_)
    refine W.widen (k := 8) (n := 436) (by decide) (by decide) ?_
    try dsimp only at hw
    refine mx_aload_n (r := some v0) hx hb d_NJ_label_70 rfl (lv_at hl 2 rfl) ?_
    refine mx_aload (r := some q14) hx hb d_NJ_label_71 (lv_at hl 0 rfl) ?_
    obtain ⟨t28, hw⟩ := hw
    refine mx_callv (va_runV (b := v0) (As := [va_rf (some q14)]) (rest := []) ⟨hx, hb, hml, hown, hW⟩ (mt_NJ_joinSpot l D cs Z _ hw) (mx_cwV hW ok_NJ_joinSpot kw_340 rfl rfl ⟨Nat.le_of_ble_eq_true rfl, Nat.le_of_ble_eq_true rfl⟩) (mx_preV hK hZ hA hR (ci := 0) rfl t28) rfl rfl hl.1 rfl (lv_room (Nat.le_of_ble_eq_true rfl)) d_NJ_label_73 ⟨Nat.le_of_ble_eq_true rfl, Nat.le_of_ble_eq_true rfl⟩) hR hA (fun h27 H locs hw hR => ?_)
    try dsimp only at hw
    refine mx_aload_n (r := some v0) hx hb d_NJ_label_76 rfl (lv_at hl 2 rfl) ?_
    refine lv_iload_n hx hb d_NJ_label_77 rfl (lv_at hl 3 rfl) ?_
    obtain ⟨t31, hw⟩ := hw
    refine mx_callv (va_runV (b := v0) (As := [.int x1]) (rest := []) ⟨hx, hb, hml, hown, hW⟩ (mt_NJ_spreadOver l D cs Z _ hw) (mx_cwV hW ok_NJ_spreadOver kw_682 rfl rfl ⟨Nat.le_of_ble_eq_true rfl, Nat.le_of_ble_eq_true rfl⟩) (mx_preV hK hZ hA hR (ci := 0) rfl t31) rfl rfl hl.1 rfl (lv_room (Nat.le_of_ble_eq_true rfl)) d_NJ_label_78 ⟨Nat.le_of_ble_eq_true rfl, Nat.le_of_ble_eq_true rfl⟩) hR hA (fun h30 H locs hw hR => ?_)
    try dsimp only at hw
    refine mx_aload_n (r := some v0) hx hb d_NJ_label_81 rfl (lv_at hl 2 rfl) ?_
    obtain ⟨t34, hw⟩ := hw
    refine mx_callv (va_runV (b := v0) (As := []) (rest := []) ⟨hx, hb, hml, hown, hW⟩ (mt_NJ_keepUp l D cs Z _ hw) (mx_cwV hW ok_NJ_keepUp kw_606 rfl rfl ⟨Nat.le_of_ble_eq_true rfl, Nat.le_of_ble_eq_true rfl⟩) (mx_preV hK hZ hA hR (ci := 0) rfl t34) rfl rfl hl.1 rfl (lv_room (Nat.le_of_ble_eq_true rfl)) d_NJ_label_82 ⟨Nat.le_of_ble_eq_true rfl, Nat.le_of_ble_eq_true rfl⟩) hR hA (fun h33 H locs hw hR => ?_)
    try dsimp only at hw
    refine lv_iload hx hb d_NJ_label_85 (lv_at hl 1 rfl) ?_
    exact t_ret (mx_iret hx hb hr hlocks hR hw d_NJ_label_87)
  · have hw := hw.2 c13
    refine lv_iconst (v := (-1)) hx hb d_NJ_label_32 (by decide) ?_
    refine W.widen (k := 8) (n := 436) (by decide) (by decide) ?_
    exact t_ret (mx_iret hx hb hr hlocks hR hw d_NJ_label_33)
set_option maxHeartbeats 4000000 in
set_option maxRecDepth 100000 in
theorem mt_NJ_pin (l : Launch) (hlT : l.stackTraces = false) (D : va_G) (cs : CS) (Z : Nat → Nat) (sz : Nat) {post : Int32 → HS → Prop} {exc : Nat → HS → Prop} {h : HS} {v0 : Nat} {x1 : Int32} {x2 : Int64} {x4 : Int64} {x6 : Int32} (hw : wp_NJ_pin Z post exc h v0 x1 x2 x4 x6) : TMet l y_NJ_pin (Cond.code y_NJ_pin c_NJ_pin 9 (some .int) :: WA) ({ frames := 10, cells := 5, slots := 224, locals := 431 } : Room) D cs (mPc D cs Z h sz [va_rf (some v0), .int x1, .long x2, .long x4, .int x6]) (va_Qi post (mB D cs h sz) (fA h sz)) exc h sz 5 224 := by
  refine mx_tmet (fun sz => va_Qi post (mB D cs h sz) (fA h sz)) (by decide) hlT (by simp [lg_sl, mx_rf_cat, cat_i, cat_l]) ?_
  intro p e s m args below meth c C hR ls hl
  have hl : lv_has ls 9 [(0, va_rf (some v0)), (1, .int x1), (2, .long x2), (4, .long x4), (6, .int x6)] := hl
  obtain ⟨⟨hx, hb, hr, hml, hown, hW, hlocks, hnm, hK, hZ⟩, hno, -⟩ := id C
  have hown : s.vm.findClass "NetJoins" = some m.cls := hown
  have hA : ∀ q, s.heap.size ≤ q → fA h s.heap.size q := fun _ h => Or.inr h
  unfold wp_NJ_pin at hw
  refine mx_aload_n (r := some v0) hx hb d_NJ_pin_0 rfl (lv_at hl 0 rfl) ?_
  refine lv_iload_n hx hb d_NJ_pin_1 rfl (lv_at hl 1 rfl) ?_
  obtain ⟨t3, hw⟩ := hw
  refine mx_tcallV (As := [.int x1]) (rest := []) (b := v0) (ci := 0) hx hb hml hown hW hK hZ hlocks hno hR hA ok_NJ_needDrawn kw_496 (mt_NJ_needDrawn l hlT D cs Z _ hw) rfl rfl ⟨Nat.le_of_ble_eq_true rfl, Nat.le_of_ble_eq_true rfl⟩ rfl t3 rfl hl.1 rfl (Nat.le_of_ble_eq_true rfl) d_NJ_pin_2 ⟨Nat.le_of_ble_eq_true rfl, Nat.le_of_ble_eq_true rfl⟩ ⟨by decide, by decide⟩ (fun h2 H locs hw hR => ?_)
  refine W.widen (k := 2) (n := 12) (by decide) (by decide) ?_
  try dsimp only at hw
  refine lv_lload_n hx hb d_NJ_pin_5 rfl (lv_at hl 2 rfl) ?_
  refine lv_lload hx hb d_NJ_pin_6 (lv_at hl 3 rfl) ?_
  refine mx_tcallS (As := [.long x2, .long x4]) (rest := []) hx hb hml hown hW hK hZ hlocks hno hR hA ok_NJ_needPlace kw_622 (mt_NJ_needPlace l hlT D cs Z _ hw) rfl rfl ⟨Nat.le_of_ble_eq_true rfl, Nat.le_of_ble_eq_true rfl⟩ rfl hl.1 rfl (Nat.le_of_ble_eq_true rfl) d_NJ_pin_8 ⟨Nat.le_of_ble_eq_true rfl, Nat.le_of_ble_eq_true rfl⟩ ⟨by decide, by decide⟩ (fun h5 H locs hw hR => ?_)
  refine W.widen (k := 3) (n := 18) (by decide) (by decide) ?_
  try dsimp only at hw
  refine mx_aload_n (r := some v0) hx hb d_NJ_pin_11 rfl (lv_at hl 0 rfl) ?_
  obtain ⟨t6, hw⟩ := hw
  refine mx_get (ci := 0) (C := "NetJoins") (T := F_NJ) (N := 18) hx hb hW hown hK.1 hR (a := v0) rfl t6 rfl i_NJ 5 2 (by decide) rfl kw_125 (fun _ h9 => h9) d_NJ_pin_12 ?_
  obtain ⟨a9, ea9, t10, hw⟩ := hw
  refine W.eq (g2 := F0 m 15 ls [va_rf (some a9)]) (by rw [← ea9] <;> rfl) ?_
  refine mx_calli (va_runV (b := a9) (As := []) (rest := []) ⟨hx, hb, hml, hown, hW⟩ (mt_AL_size l D cs Z _ hw) (mx_cwV hW ok_AL_size kw_192 rfl rfl ⟨Nat.le_of_ble_eq_true rfl, Nat.le_of_ble_eq_true rfl⟩) (mx_preV hK hZ hA hR (ci := 9) rfl t10) rfl rfl hl.1 rfl (lv_room (Nat.le_of_ble_eq_true rfl)) d_NJ_pin_15 ⟨Nat.le_of_ble_eq_true rfl, Nat.le_of_ble_eq_true rfl⟩) hR hA (fun r7 h8 H locs hw hR => ?_)
  try dsimp only at hw
  refine lv_istore (i := 7) (lv' := [(7, .int r7), (0, va_rf (some v0)), (1, .int x1), (2, .long x2), (4, .long x4), (6, .int x6)]) hx hb d_NJ_pin_18 hl (by decide) rfl (fun ls hl => ?_)
  refine lv_iload hx hb d_NJ_pin_20 (lv_at hl 0 rfl) ?_
  refine lv_bipush (v := 60) hx hb d_NJ_pin_22 (by decide) ?_
  refine lv_icmp_ge (tgt := 40) hx hb d_NJ_pin_24 (by decide) (fun c11 => ?_) (fun c11 => ?_)
  · have hw := hw.1 c11
    refine lv_iconst (v := (-1)) hx hb d_NJ_pin_40 (by decide) ?_
    refine W.widen (k := 5) (n := 224) (by decide) (by decide) ?_
    exact t_ret (mx_iret hx hb hr hlocks hR hw d_NJ_pin_41)
  · have hw := hw.2 c11
    refine mx_aload_n (r := some v0) hx hb d_NJ_pin_27 rfl (lv_at hl 1 rfl) ?_
    refine lv_iload hx hb d_NJ_pin_28 (lv_at hl 5 rfl) ?_
    refine lv_iload_n hx hb d_NJ_pin_30 rfl (lv_at hl 2 rfl) ?_
    refine lv_lload_n hx hb d_NJ_pin_31 rfl (lv_at hl 3 rfl) ?_
    refine lv_lload hx hb d_NJ_pin_32 (lv_at hl 4 rfl) ?_
    obtain ⟨t14, hw⟩ := hw
    refine mx_calli (va_runV (b := v0) (As := [.int x6, .int x1, .long x2, .long x4]) (rest := []) ⟨hx, hb, hml, hown, hW⟩ (mt_NJ_hasPinOf l D cs Z _ hw) (mx_cwV hW ok_NJ_hasPinOf kw_993 rfl rfl ⟨Nat.le_of_ble_eq_true rfl, Nat.le_of_ble_eq_true rfl⟩) (mx_preV hK hZ hA hR (ci := 0) rfl t14) rfl rfl hl.1 rfl (lv_room (Nat.le_of_ble_eq_true rfl)) d_NJ_pin_34 ⟨Nat.le_of_ble_eq_true rfl, Nat.le_of_ble_eq_true rfl⟩) hR hA (fun r12 h13 H locs hw hR => ?_)
    try dsimp only at hw
    refine lv_if_eq (tgt := 42) hx hb d_NJ_pin_37 (by decide) (fun c15 => ?_) (fun c15 => ?_)
    · have hw := hw.1 c15
      refine mx_new (ci := 6) (C := "NetJoins$Spot") (T := F_Spot) (N := 6) hx hb hW hown hK.1 hR hA rfl i_Spot t_Spot t_Spot_ok kw_210 kw_693 kw_22 (fun q j hj => nf_Spot _ q j hj) (by decide) (by decide) d_NJ_pin_42 (fun q16 H tq16 hR => ?_)
      refine W.widen (k := 4) (n := 24) (by decide) (by decide) ?_
      have hw := hw q16 tq16
      obtain ⟨h17, eh17⟩ : ∃ z, z = nH h13 q16 22 0 := ⟨_, rfl⟩
      rw [← eh17] at hR
      have hw := hw h17 eh17
      refine lv_dup hx hb d_NJ_pin_45 (mx_rf_cat _) ?_
      refine lv_iload_n hx hb d_NJ_pin_46 rfl (lv_at hl 2 rfl) ?_
      refine lv_lload_n hx hb d_NJ_pin_47 rfl (lv_at hl 3 rfl) ?_
      refine lv_lload hx hb d_NJ_pin_48 (lv_at hl 4 rfl) ?_
      refine lv_iload hx hb d_NJ_pin_50 (lv_at hl 5 rfl) ?_
      refine lv_iload hx hb d_NJ_pin_52 (lv_at hl 0 rfl) ?_
      refine mx_callv (va_runI (b := q16) (As := [.int x1, .long x2, .long x4, .int x6, .int r7]) (rest := [va_rf (some q16)]) ⟨hx, hb, hml, hown, hW⟩ (mt_Spot_init l D cs Z _ hw) (mx_cwI hW ok_Spot_init kw_694 rfl rfl ⟨Nat.le_of_ble_eq_true rfl, Nat.le_of_ble_eq_true rfl⟩) (mx_preS hK hZ hA hR) rfl rfl hl.1 rfl (lv_room (Nat.le_of_ble_eq_true rfl)) d_NJ_pin_54 ⟨Nat.le_of_ble_eq_true rfl, Nat.le_of_ble_eq_true rfl⟩) hR hA (fun h19 H locs hw hR => ?_)
      try dsimp only at hw
      refine mx_astore (i := 8) (r := some q16) (lv' := [(8, va_rf (some q16)), (7, .int r7), (0, va_rf (some v0)), (1, .int x1), (2, .long x2), (4, .long x4), (6, .int x6)]) hx hb d_NJ_pin_57 hl (by decide) rfl (fun ls hl => ?_)
      refine mx_aload_n (r := some v0) hx hb d_NJ_pin_59 rfl (lv_at hl 2 rfl) ?_
      obtain ⟨t20, hw⟩ := hw
      refine mx_get (ci := 0) (C := "NetJoins") (T := F_NJ) (N := 18) hx hb hW hown hK.1 hR (a := v0) rfl t20 rfl i_NJ 5 2 (by decide) rfl kw_125 (fun _ h9 => h9) d_NJ_pin_60 ?_
      refine mx_aload (r := some q16) hx hb d_NJ_pin_63 (lv_at hl 0 rfl) ?_
      obtain ⟨a23, ea23, t24, hw⟩ := hw
      refine W.eq (g2 := F0 m 65 ls [va_rf (some q16), va_rf (some a23)]) (by rw [← ea23] <;> rfl) ?_
      refine mx_calli (va_runV (b := a23) (As := [va_rf (some q16)]) (rest := []) ⟨hx, hb, hml, hown, hW⟩ (mt_AL_add2 l D cs Z _ hw) (mx_cwV hW ok_AL_add2 kw_546 rfl rfl ⟨Nat.le_of_ble_eq_true rfl, Nat.le_of_ble_eq_true rfl⟩) (mx_preV hK hZ hA hR (ci := 9) rfl t24) rfl rfl hl.1 rfl (lv_room (Nat.le_of_ble_eq_true rfl)) d_NJ_pin_65 ⟨Nat.le_of_ble_eq_true rfl, Nat.le_of_ble_eq_true rfl⟩) hR hA (fun r21 h22 H locs hw hR => ?_)
      refine W.widen (k := 5) (n := 224) (by decide) (by decide) ?_
      try dsimp only at hw
      refine lv_pop hx hb d_NJ_pin_68 rfl ?_
      refine mx_aload_n (r := some v0) hx hb d_NJ_pin_69 rfl (lv_at hl 2 rfl) ?_
      refine mx_aload (r := some q16) hx hb d_NJ_pin_70 (lv_at hl 0 rfl) ?_
      obtain ⟨t27, hw⟩ := hw
      refine mx_callv (va_runV (b := v0) (As := [va_rf (some q16)]) (rest := []) ⟨hx, hb, hml, hown, hW⟩ (mt_NJ_joinSpot l D cs Z _ hw) (mx_cwV hW ok_NJ_joinSpot kw_340 rfl rfl ⟨Nat.le_of_ble_eq_true rfl, Nat.le_of_ble_eq_true rfl⟩) (mx_preV hK hZ hA hR (ci := 0) rfl t27) rfl rfl hl.1 rfl (lv_room (Nat.le_of_ble_eq_true rfl)) d_NJ_pin_72 ⟨Nat.le_of_ble_eq_true rfl, Nat.le_of_ble_eq_true rfl⟩) hR hA (fun h26 H locs hw hR => ?_)
      try dsimp only at hw
      refine mx_aload_n (r := some v0) hx hb d_NJ_pin_75 rfl (lv_at hl 2 rfl) ?_
      refine lv_iload_n hx hb d_NJ_pin_76 rfl (lv_at hl 3 rfl) ?_
      obtain ⟨t30, hw⟩ := hw
      refine mx_callv (va_runV (b := v0) (As := [.int x1]) (rest := []) ⟨hx, hb, hml, hown, hW⟩ (mt_NJ_spreadOver l D cs Z _ hw) (mx_cwV hW ok_NJ_spreadOver kw_682 rfl rfl ⟨Nat.le_of_ble_eq_true rfl, Nat.le_of_ble_eq_true rfl⟩) (mx_preV hK hZ hA hR (ci := 0) rfl t30) rfl rfl hl.1 rfl (lv_room (Nat.le_of_ble_eq_true rfl)) d_NJ_pin_77 ⟨Nat.le_of_ble_eq_true rfl, Nat.le_of_ble_eq_true rfl⟩) hR hA (fun h29 H locs hw hR => ?_)
      try dsimp only at hw
      refine mx_aload_n (r := some v0) hx hb d_NJ_pin_80 rfl (lv_at hl 2 rfl) ?_
      obtain ⟨t33, hw⟩ := hw
      refine mx_callv (va_runV (b := v0) (As := []) (rest := []) ⟨hx, hb, hml, hown, hW⟩ (mt_NJ_keepUp l D cs Z _ hw) (mx_cwV hW ok_NJ_keepUp kw_606 rfl rfl ⟨Nat.le_of_ble_eq_true rfl, Nat.le_of_ble_eq_true rfl⟩) (mx_preV hK hZ hA hR (ci := 0) rfl t33) rfl rfl hl.1 rfl (lv_room (Nat.le_of_ble_eq_true rfl)) d_NJ_pin_81 ⟨Nat.le_of_ble_eq_true rfl, Nat.le_of_ble_eq_true rfl⟩) hR hA (fun h32 H locs hw hR => ?_)
      try dsimp only at hw
      refine lv_iload hx hb d_NJ_pin_84 (lv_at hl 1 rfl) ?_
      exact t_ret (mx_iret hx hb hr hlocks hR hw d_NJ_pin_86)
    · have hw := hw.2 c15
      refine lv_iconst (v := (-1)) hx hb d_NJ_pin_40 (by decide) ?_
      refine W.widen (k := 5) (n := 224) (by decide) (by decide) ?_
      exact t_ret (mx_iret hx hb hr hlocks hR hw d_NJ_pin_41)
set_option maxHeartbeats 4000000 in
set_option maxRecDepth 100000 in
theorem mt_NJ_needLabelOn (l : Launch) (hlT : l.stackTraces = false) (D : va_G) (cs : CS) (Z : Nat → Nat) (sz : Nat) {post : HS → Prop} {exc : Nat → HS → Prop} {h : HS} {v0 : Nat} {x1 : Int32} {x2 : Int32} (hw : wp_NJ_needLabelOn Z post exc h v0 x1 x2) : TMet l y_NJ_needLabelOn (Cond.code y_NJ_needLabelOn c_NJ_needLabelOn 3 none :: WA) ({ frames := 8, cells := 1, slots := 6, locals := 200 } : Room) D cs (mPc D cs Z h sz [va_rf (some v0), .int x1, .int x2]) (va_Qv post (mB D cs h sz) (fA h sz)) exc h sz 1 6 := by
  refine mx_tmet (fun sz => va_Qv post (mB D cs h sz) (fA h sz)) (by decide) hlT (by simp [lg_sl, mx_rf_cat, cat_i, cat_l]) ?_
  intro p e s m args below meth c C hR ls hl
  have hl : lv_has ls 3 [(0, va_rf (some v0)), (1, .int x1), (2, .int x2)] := hl
  obtain ⟨⟨hx, hb, hr, hml, hown, hW, hlocks, hnm, hK, hZ⟩, hno, -⟩ := id C
  have hown : s.vm.findClass "NetJoins" = some m.cls := hown
  have hA : ∀ q, s.heap.size ≤ q → fA h s.heap.size q := fun _ h => Or.inr h
  unfold wp_NJ_needLabelOn at hw
  refine lv_iload_n hx hb d_NJ_needLabelOn_0 rfl (lv_at hl 2 rfl) ?_
  refine lv_if_lt (tgt := 46) hx hb d_NJ_needLabelOn_1 (by decide) (fun c1 => ?_) (fun c1 => ?_)
  · have hw := hw.1 c1
    exact mx_throw (k := 1) (ic := 221) (ik := 217) (is := 291) (n4 := 3) (tx := "no such label on the sheet") hx hb hlT hown hW hK hZ hlocks hno (hl.1.trans hml.symm) hR t_at1 (by decide) (by decide +kernel) kw_428 kw_12 (by decide) d_NJ_needLabelOn_46 d_NJ_needLabelOn_49 (Or.inr ⟨d_NJ_needLabelOn_50, rfl⟩) d_NJ_needLabelOn_53 d_NJ_needLabelOn_56 (by decide) (Nat.le_of_ble_eq_true rfl) (by decide) (by decide) (by decide) (by decide) hw
  · have hw := hw.2 c1
    refine lv_iload_n hx hb d_NJ_needLabelOn_4 rfl (lv_at hl 2 rfl) ?_
    refine mx_aload_n (r := some v0) hx hb d_NJ_needLabelOn_5 rfl (lv_at hl 0 rfl) ?_
    obtain ⟨t2, hw⟩ := hw
    refine mx_get (ci := 0) (C := "NetJoins") (T := F_NJ) (N := 18) hx hb hW hown hK.1 hR (a := v0) rfl t2 rfl i_NJ 3 2 (by decide) rfl kw_123 (fun _ h9 => h9) d_NJ_needLabelOn_6 ?_
    obtain ⟨a5, ea5, t6, hw⟩ := hw
    refine W.eq (g2 := F0 m 9 ls [va_rf (some a5), .int x2]) (by rw [← ea5] <;> rfl) ?_
    refine mx_calli (va_runV (b := a5) (As := []) (rest := [.int x2]) ⟨hx, hb, hml, hown, hW⟩ (mt_AL_size l D cs Z _ hw) (mx_cwV hW ok_AL_size kw_192 rfl rfl ⟨Nat.le_of_ble_eq_true rfl, Nat.le_of_ble_eq_true rfl⟩) (mx_preV hK hZ hA hR (ci := 9) rfl t6) rfl rfl hl.1 rfl (lv_room (Nat.le_of_ble_eq_true rfl)) d_NJ_needLabelOn_9 ⟨Nat.le_of_ble_eq_true rfl, Nat.le_of_ble_eq_true rfl⟩) hR hA (fun r3 h4 H locs hw hR => ?_)
    try dsimp only at hw
    refine lv_icmp_ge (tgt := 46) hx hb d_NJ_needLabelOn_12 (by decide) (fun c7 => ?_) (fun c7 => ?_)
    · have hw := hw.1 c7
      exact mx_throw (k := 1) (ic := 221) (ik := 217) (is := 291) (n4 := 3) (tx := "no such label on the sheet") hx hb hlT hown hW hK hZ hlocks hno (hl.1.trans hml.symm) hR t_at1 (by decide) (by decide +kernel) kw_428 kw_12 (by decide) d_NJ_needLabelOn_46 d_NJ_needLabelOn_49 (Or.inr ⟨d_NJ_needLabelOn_50, rfl⟩) d_NJ_needLabelOn_53 d_NJ_needLabelOn_56 (by decide) (Nat.le_of_ble_eq_true rfl) (by decide) (by decide) (by decide) (by decide) hw
    · have hw := hw.2 c7
      refine mx_aload_n (r := some v0) hx hb d_NJ_needLabelOn_15 rfl (lv_at hl 0 rfl) ?_
      obtain ⟨t8, hw⟩ := hw
      refine mx_get (ci := 0) (C := "NetJoins") (T := F_NJ) (N := 18) hx hb hW hown hK.1 hR (a := v0) rfl t8 rfl i_NJ 3 2 (by decide) rfl kw_123 (fun _ h9 => h9) d_NJ_needLabelOn_16 ?_
      refine lv_iload_n hx hb d_NJ_needLabelOn_19 rfl (lv_at hl 2 rfl) ?_
      obtain ⟨a11, ea11, t12, hw⟩ := hw
      refine W.eq (g2 := F0 m 20 ls [.int x2, va_rf (some a11)]) (by rw [← ea11] <;> rfl) ?_
      refine mx_callr (va_runV (b := a11) (As := [.int x2]) (rest := []) ⟨hx, hb, hml, hown, hW⟩ (mt_AL_get l D cs Z _ hw) (mx_cwV hW ok_AL_get kw_196 rfl rfl ⟨Nat.le_of_ble_eq_true rfl, Nat.le_of_ble_eq_true rfl⟩) (mx_preV hK hZ hA hR (ci := 9) rfl t12) rfl rfl hl.1 rfl (lv_room (Nat.le_of_ble_eq_true rfl)) d_NJ_needLabelOn_20 ⟨Nat.le_of_ble_eq_true rfl, Nat.le_of_ble_eq_true rfl⟩) hR hA (fun r9 h10 H locs hw hR => ?_)
      try dsimp only at hw
      obtain ⟨t13, hw⟩ := hw
      refine mx_cast (ci := 6) (C := "NetJoins$Spot") (T := F_Spot) (N := 6) hx hb hW hown hK.1 hR rfl kw_210 t13 d_NJ_needLabelOn_23 ?_
      obtain ⟨a14, ea14, t15, hw⟩ := hw
      refine mx_get (ci := 6) (C := "NetJoins$Spot") (T := F_Spot) (N := 6) hx hb hW hown hK.1 hR (a := a14) ea14 t15 rfl i_Spot 0 0 (by decide) rfl kw_700 (fun _ h9 => h9) d_NJ_needLabelOn_26 ?_
      refine mx_aload_n (r := some v0) hx hb d_NJ_needLabelOn_29 rfl (lv_at hl 0 rfl) ?_
      obtain ⟨t16, hw⟩ := hw
      refine mx_get (ci := 0) (C := "NetJoins") (T := F_NJ) (N := 18) hx hb hW hown hK.1 hR (a := v0) rfl t16 rfl i_NJ 0 2 (by decide) rfl kw_120 (fun _ h9 => h9) d_NJ_needLabelOn_30 ?_
      refine lv_iload_n hx hb d_NJ_needLabelOn_33 rfl (lv_at hl 1 rfl) ?_
      obtain ⟨a19, ea19, t20, hw⟩ := hw
      refine W.eq (g2 := F0 m 34 ls [.int x1, va_rf (some a19), .int (gI h10 600 a14)]) (by rw [← ea19] <;> rfl) ?_
      refine mx_callr (va_runV (b := a19) (As := [.int x1]) (rest := [.int (gI h10 600 a14)]) ⟨hx, hb, hml, hown, hW⟩ (mt_AL_get l D cs Z _ hw) (mx_cwV hW ok_AL_get kw_196 rfl rfl ⟨Nat.le_of_ble_eq_true rfl, Nat.le_of_ble_eq_true rfl⟩) (mx_preV hK hZ hA hR (ci := 9) rfl t20) rfl rfl hl.1 rfl (lv_room (Nat.le_of_ble_eq_true rfl)) d_NJ_needLabelOn_34 ⟨Nat.le_of_ble_eq_true rfl, Nat.le_of_ble_eq_true rfl⟩) hR hA (fun r17 h18 H locs hw hR => ?_)
      try dsimp only at hw
      obtain ⟨t21, hw⟩ := hw
      refine mx_cast (ci := 5) (C := "NetJoins$Sheet") (T := F_Sheet) (N := 5) hx hb hW hown hK.1 hR rfl kw_211 t21 d_NJ_needLabelOn_37 ?_
      obtain ⟨a22, ea22, t23, hw⟩ := hw
      refine mx_get (ci := 5) (C := "NetJoins$Sheet") (T := F_Sheet) (N := 5) hx hb hW hown hK.1 hR (a := a22) ea22 t23 rfl i_Sheet 2 0 (by decide) rfl kw_526 (fun _ h9 => h9) d_NJ_needLabelOn_40 ?_
      refine lv_icmp_eq (tgt := 57) hx hb d_NJ_needLabelOn_43 (by decide) (fun c24 => ?_) (fun c24 => ?_)
      · have hw := hw.1 c24
        refine W.widen (k := 1) (n := 6) (by decide) (by decide) ?_
        exact t_ret (mx_vret hx hb hr hlocks hR hw d_NJ_needLabelOn_57)
      · have hw := hw.2 c24
        exact mx_throw (k := 1) (ic := 221) (ik := 217) (is := 291) (n4 := 3) (tx := "no such label on the sheet") hx hb hlT hown hW hK hZ hlocks hno (hl.1.trans hml.symm) hR t_at1 (by decide) (by decide +kernel) kw_428 kw_12 (by decide) d_NJ_needLabelOn_46 d_NJ_needLabelOn_49 (Or.inr ⟨d_NJ_needLabelOn_50, rfl⟩) d_NJ_needLabelOn_53 d_NJ_needLabelOn_56 (by decide) (Nat.le_of_ble_eq_true rfl) (by decide) (by decide) (by decide) (by decide) hw
set_option maxHeartbeats 4000000 in
set_option maxRecDepth 100000 in
theorem mt_NJ_needParent (l : Launch) (hlT : l.stackTraces = false) (D : va_G) (cs : CS) (Z : Nat → Nat) (sz : Nat) {post : HS → Prop} {exc : Nat → HS → Prop} {h : HS} {v0 : Nat} {x1 : Int32} (hw : wp_NJ_needParent Z post exc h v0 x1) : TMet l y_NJ_needParent (Cond.code y_NJ_needParent c_NJ_needParent 2 none :: WA) ({ frames := 8, cells := 1, slots := 6, locals := 200 } : Room) D cs (mPc D cs Z h sz [va_rf (some v0), .int x1]) (va_Qv post (mB D cs h sz) (fA h sz)) exc h sz 1 6 := by
  refine mx_tmet (fun sz => va_Qv post (mB D cs h sz) (fA h sz)) (by decide) hlT (by simp [lg_sl, mx_rf_cat, cat_i, cat_l]) ?_
  intro p e s m args below meth c C hR ls hl
  have hl : lv_has ls 2 [(0, va_rf (some v0)), (1, .int x1)] := hl
  obtain ⟨⟨hx, hb, hr, hml, hown, hW, hlocks, hnm, hK, hZ⟩, hno, -⟩ := id C
  have hown : s.vm.findClass "NetJoins" = some m.cls := hown
  have hA : ∀ q, s.heap.size ≤ q → fA h s.heap.size q := fun _ h => Or.inr h
  unfold wp_NJ_needParent at hw
  refine mx_aload_n (r := some v0) hx hb d_NJ_needParent_0 rfl (lv_at hl 0 rfl) ?_
  obtain ⟨t1, hw⟩ := hw
  refine mx_get (ci := 0) (C := "NetJoins") (T := F_NJ) (N := 18) hx hb hW hown hK.1 hR (a := v0) rfl t1 rfl i_NJ 0 2 (by decide) rfl kw_120 (fun _ h9 => h9) d_NJ_needParent_1 ?_
  refine lv_iload_n hx hb d_NJ_needParent_4 rfl (lv_at hl 1 rfl) ?_
  obtain ⟨a4, ea4, t5, hw⟩ := hw
  refine W.eq (g2 := F0 m 5 ls [.int x1, va_rf (some a4)]) (by rw [← ea4] <;> rfl) ?_
  refine mx_callr (va_runV (b := a4) (As := [.int x1]) (rest := []) ⟨hx, hb, hml, hown, hW⟩ (mt_AL_get l D cs Z _ hw) (mx_cwV hW ok_AL_get kw_196 rfl rfl ⟨Nat.le_of_ble_eq_true rfl, Nat.le_of_ble_eq_true rfl⟩) (mx_preV hK hZ hA hR (ci := 9) rfl t5) rfl rfl hl.1 rfl (lv_room (Nat.le_of_ble_eq_true rfl)) d_NJ_needParent_5 ⟨Nat.le_of_ble_eq_true rfl, Nat.le_of_ble_eq_true rfl⟩) hR hA (fun r2 h3 H locs hw hR => ?_)
  try dsimp only at hw
  obtain ⟨t6, hw⟩ := hw
  refine mx_cast (ci := 5) (C := "NetJoins$Sheet") (T := F_Sheet) (N := 5) hx hb hW hown hK.1 hR rfl kw_211 t6 d_NJ_needParent_8 ?_
  obtain ⟨a7, ea7, t8, hw⟩ := hw
  refine mx_get (ci := 5) (C := "NetJoins$Sheet") (T := F_Sheet) (N := 5) hx hb hW hown hK.1 hR (a := a7) ea7 t8 rfl i_Sheet 1 0 (by decide) rfl kw_524 (fun _ h9 => h9) d_NJ_needParent_11 ?_
  refine lv_iconst (v := (-1)) hx hb d_NJ_needParent_14 (by decide) ?_
  refine lv_icmp_ne (tgt := 29) hx hb d_NJ_needParent_15 (by decide) (fun c9 => ?_) (fun c9 => ?_)
  · have hw := hw.1 c9
    refine W.widen (k := 1) (n := 6) (by decide) (by decide) ?_
    exact t_ret (mx_vret hx hb hr hlocks hR hw d_NJ_needParent_29)
  · have hw := hw.2 c9
    exact mx_throw (k := 2) (ic := 288) (ik := 284) (is := 289) (n4 := 3) (tx := "the sheet has no parent") hx hb hlT hown hW hK hZ hlocks hno (hl.1.trans hml.symm) hR t_at2 (by decide) (by decide +kernel) kw_500 kw_15 (by decide) d_NJ_needParent_18 d_NJ_needParent_21 (Or.inr ⟨d_NJ_needParent_22, rfl⟩) d_NJ_needParent_25 d_NJ_needParent_28 (by decide) (Nat.le_of_ble_eq_true rfl) (by decide) (by decide) (by decide) (by decide) hw
set_option maxHeartbeats 4000000 in
set_option maxRecDepth 100000 in
theorem mt_NJ_port (l : Launch) (hlT : l.stackTraces = false) (D : va_G) (cs : CS) (Z : Nat → Nat) (sz : Nat) {post : Int32 → HS → Prop} {exc : Nat → HS → Prop} {h : HS} {v0 : Nat} {x1 : Int32} {x2 : Int32} {x3 : Int32} (hw : wp_NJ_port Z post exc h v0 x1 x2 x3) : TMet l y_NJ_port (Cond.code y_NJ_port c_NJ_port 6 (some .boolean) :: WA) ({ frames := 9, cells := 6, slots := 229, locals := 431 } : Room) D cs (mPc D cs Z h sz [va_rf (some v0), .int x1, .int x2, .int x3]) (va_Qi post (mB D cs h sz) (fA h sz)) exc h sz 6 229 := by
  refine mx_tmet (fun sz => va_Qi post (mB D cs h sz) (fA h sz)) (by decide) hlT (by simp [lg_sl, mx_rf_cat, cat_i, cat_l]) ?_
  intro p e s m args below meth c C hR ls hl
  have hl : lv_has ls 6 [(0, va_rf (some v0)), (1, .int x1), (2, .int x2), (3, .int x3)] := hl
  obtain ⟨⟨hx, hb, hr, hml, hown, hW, hlocks, hnm, hK, hZ⟩, hno, -⟩ := id C
  have hown : s.vm.findClass "NetJoins" = some m.cls := hown
  have hA : ∀ q, s.heap.size ≤ q → fA h s.heap.size q := fun _ h => Or.inr h
  unfold wp_NJ_port at hw
  refine mx_aload_n (r := some v0) hx hb d_NJ_port_0 rfl (lv_at hl 0 rfl) ?_
  refine lv_iload_n hx hb d_NJ_port_1 rfl (lv_at hl 1 rfl) ?_
  obtain ⟨t3, hw⟩ := hw
  refine mx_tcallV (As := [.int x1]) (rest := []) (b := v0) (ci := 0) hx hb hml hown hW hK hZ hlocks hno hR hA ok_NJ_needSheet kw_424 (mt_NJ_needSheet l hlT D cs Z _ hw) rfl rfl ⟨Nat.le_of_ble_eq_true rfl, Nat.le_of_ble_eq_true rfl⟩ rfl t3 rfl hl.1 rfl (Nat.le_of_ble_eq_true rfl) d_NJ_port_2 ⟨Nat.le_of_ble_eq_true rfl, Nat.le_of_ble_eq_true rfl⟩ ⟨by decide, by decide⟩ (fun h2 H locs hw hR => ?_)
  refine W.widen (k := 1) (n := 6) (by decide) (by decide) ?_
  try dsimp only at hw
  refine mx_aload_n (r := some v0) hx hb d_NJ_port_5 rfl (lv_at hl 0 rfl) ?_
  refine lv_iload_n hx hb d_NJ_port_6 rfl (lv_at hl 1 rfl) ?_
  refine lv_iload_n hx hb d_NJ_port_7 rfl (lv_at hl 2 rfl) ?_
  obtain ⟨t6, hw⟩ := hw
  refine mx_tcallV (As := [.int x1, .int x2]) (rest := []) (b := v0) (ci := 0) hx hb hml hown hW hK hZ hlocks hno hR hA ok_NJ_needLabelOn kw_1004 (mt_NJ_needLabelOn l hlT D cs Z _ hw) rfl rfl ⟨Nat.le_of_ble_eq_true rfl, Nat.le_of_ble_eq_true rfl⟩ rfl t6 rfl hl.1 rfl (Nat.le_of_ble_eq_true rfl) d_NJ_port_8 ⟨Nat.le_of_ble_eq_true rfl, Nat.le_of_ble_eq_true rfl⟩ ⟨by decide, by decide⟩ (fun h5 H locs hw hR => ?_)
  refine W.widen (k := 2) (n := 12) (by decide) (by decide) ?_
  try dsimp only at hw
  refine mx_aload_n (r := some v0) hx hb d_NJ_port_11 rfl (lv_at hl 0 rfl) ?_
  refine lv_iload_n hx hb d_NJ_port_12 rfl (lv_at hl 1 rfl) ?_
  obtain ⟨t9, hw⟩ := hw
  refine mx_tcallV (As := [.int x1]) (rest := []) (b := v0) (ci := 0) hx hb hml hown hW hK hZ hlocks hno hR hA ok_NJ_needParent kw_1009 (mt_NJ_needParent l hlT D cs Z _ hw) rfl rfl ⟨Nat.le_of_ble_eq_true rfl, Nat.le_of_ble_eq_true rfl⟩ rfl t9 rfl hl.1 rfl (Nat.le_of_ble_eq_true rfl) d_NJ_port_13 ⟨Nat.le_of_ble_eq_true rfl, Nat.le_of_ble_eq_true rfl⟩ ⟨by decide, by decide⟩ (fun h8 H locs hw hR => ?_)
  refine W.widen (k := 3) (n := 18) (by decide) (by decide) ?_
  try dsimp only at hw
  refine lv_iload_n hx hb d_NJ_port_16 rfl (lv_at hl 3 rfl) ?_
  refine mx_tcallS (As := [.int x3]) (rest := []) hx hb hml hown hW hK hZ hlocks hno hR hA ok_NJ_needName kw_732 (mt_NJ_needName l hlT D cs Z _ hw) rfl rfl ⟨Nat.le_of_ble_eq_true rfl, Nat.le_of_ble_eq_true rfl⟩ rfl hl.1 rfl (Nat.le_of_ble_eq_true rfl) d_NJ_port_17 ⟨Nat.le_of_ble_eq_true rfl, Nat.le_of_ble_eq_true rfl⟩ ⟨by decide, by decide⟩ (fun h11 H locs hw hR => ?_)
  refine W.widen (k := 4) (n := 24) (by decide) (by decide) ?_
  try dsimp only at hw
  refine mx_aload_n (r := some v0) hx hb d_NJ_port_20 rfl (lv_at hl 0 rfl) ?_
  obtain ⟨t12, hw⟩ := hw
  refine mx_get (ci := 0) (C := "NetJoins") (T := F_NJ) (N := 18) hx hb hW hown hK.1 hR (a := v0) rfl t12 rfl i_NJ 6 2 (by decide) rfl kw_126 (fun _ h9 => h9) d_NJ_port_21 ?_
  obtain ⟨a15, ea15, t16, hw⟩ := hw
  refine W.eq (g2 := F0 m 24 ls [va_rf (some a15)]) (by rw [← ea15] <;> rfl) ?_
  refine mx_calli (va_runV (b := a15) (As := []) (rest := []) ⟨hx, hb, hml, hown, hW⟩ (mt_AL_size l D cs Z _ hw) (mx_cwV hW ok_AL_size kw_192 rfl rfl ⟨Nat.le_of_ble_eq_true rfl, Nat.le_of_ble_eq_true rfl⟩) (mx_preV hK hZ hA hR (ci := 9) rfl t16) rfl rfl hl.1 rfl (lv_room (Nat.le_of_ble_eq_true rfl)) d_NJ_port_24 ⟨Nat.le_of_ble_eq_true rfl, Nat.le_of_ble_eq_true rfl⟩) hR hA (fun r13 h14 H locs hw hR => ?_)
  try dsimp only at hw
  refine lv_bipush (v := 30) hx hb d_NJ_port_27 (by decide) ?_
  refine lv_icmp_ge (tgt := 42) hx hb d_NJ_port_29 (by decide) (fun c17 => ?_) (fun c17 => ?_)
  · have hw := hw.1 c17
    refine lv_iconst (v := 0) hx hb d_NJ_port_42 (by decide) ?_
    refine W.widen (k := 6) (n := 229) (by decide) (by decide) ?_
    exact t_ret (mx_zret hx hb hr hlocks hR (Or.inl rfl) hw d_NJ_port_43)
  · have hw := hw.2 c17
    refine mx_aload_n (r := some v0) hx hb d_NJ_port_32 rfl (lv_at hl 0 rfl) ?_
    refine lv_iload_n hx hb d_NJ_port_33 rfl (lv_at hl 1 rfl) ?_
    refine lv_iload_n hx hb d_NJ_port_34 rfl (lv_at hl 2 rfl) ?_
    refine lv_iload_n hx hb d_NJ_port_35 rfl (lv_at hl 3 rfl) ?_
    obtain ⟨t20, hw⟩ := hw
    refine mx_calli (va_runV (b := v0) (As := [.int x1, .int x2, .int x3]) (rest := []) ⟨hx, hb, hml, hown, hW⟩ (mt_NJ_hasPort l D cs Z _ hw) (mx_cwV hW ok_NJ_hasPort kw_1014 rfl rfl ⟨Nat.le_of_ble_eq_true rfl, Nat.le_of_ble_eq_true rfl⟩) (mx_preV hK hZ hA hR (ci := 0) rfl t20) rfl rfl hl.1 rfl (lv_room (Nat.le_of_ble_eq_true rfl)) d_NJ_port_36 ⟨Nat.le_of_ble_eq_true rfl, Nat.le_of_ble_eq_true rfl⟩) hR hA (fun r18 h19 H locs hw hR => ?_)
    try dsimp only at hw
    refine lv_if_eq (tgt := 44) hx hb d_NJ_port_39 (by decide) (fun c21 => ?_) (fun c21 => ?_)
    · have hw := hw.1 c21
      refine lv_iload_n hx hb d_NJ_port_44 rfl (lv_at hl 1 rfl) ?_
      refine mx_aload_n (r := some v0) hx hb d_NJ_port_45 rfl (lv_at hl 0 rfl) ?_
      obtain ⟨t22, hw⟩ := hw
      refine mx_get (ci := 0) (C := "NetJoins") (T := F_NJ) (N := 18) hx hb hW hown hK.1 hR (a := v0) rfl t22 rfl i_NJ 3 2 (by decide) rfl kw_123 (fun _ h9 => h9) d_NJ_port_46 ?_
      refine lv_iload_n hx hb d_NJ_port_49 rfl (lv_at hl 2 rfl) ?_
      obtain ⟨a25, ea25, t26, hw⟩ := hw
      refine W.eq (g2 := F0 m 50 ls [.int x2, va_rf (some a25), .int x1]) (by rw [← ea25] <;> rfl) ?_
      refine mx_callr (va_runV (b := a25) (As := [.int x2]) (rest := [.int x1]) ⟨hx, hb, hml, hown, hW⟩ (mt_AL_get l D cs Z _ hw) (mx_cwV hW ok_AL_get kw_196 rfl rfl ⟨Nat.le_of_ble_eq_true rfl, Nat.le_of_ble_eq_true rfl⟩) (mx_preV hK hZ hA hR (ci := 9) rfl t26) rfl rfl hl.1 rfl (lv_room (Nat.le_of_ble_eq_true rfl)) d_NJ_port_50 ⟨Nat.le_of_ble_eq_true rfl, Nat.le_of_ble_eq_true rfl⟩) hR hA (fun r23 h24 H locs hw hR => ?_)
      try dsimp only at hw
      obtain ⟨t27, hw⟩ := hw
      refine mx_cast (ci := 6) (C := "NetJoins$Spot") (T := F_Spot) (N := 6) hx hb hW hown hK.1 hR rfl kw_210 t27 d_NJ_port_53 ?_
      obtain ⟨a28, ea28, t29, hw⟩ := hw
      refine mx_get (ci := 6) (C := "NetJoins$Spot") (T := F_Spot) (N := 6) hx hb hW hown hK.1 hR (a := a28) ea28 t29 rfl i_Spot 3 0 (by decide) rfl kw_708 (fun _ h9 => h9) d_NJ_port_56 ?_
      refine mx_calli (va_runS (As := [.int x1, .int (gI h24 603 a28)]) (rest := []) ⟨hx, hb, hml, hown, hW⟩ (mt_NJ_nameNode l D cs Z _ hw) (mx_cwS hW ok_NJ_nameNode kw_216 rfl rfl ⟨Nat.le_of_ble_eq_true rfl, Nat.le_of_ble_eq_true rfl⟩) (mx_preS hK hZ hA hR) rfl rfl hl.1 rfl (lv_room (Nat.le_of_ble_eq_true rfl)) d_NJ_port_59 ⟨Nat.le_of_ble_eq_true rfl, Nat.le_of_ble_eq_true rfl⟩) hR hA (fun r30 h31 H locs hw hR => ?_)
      try dsimp only at hw
      refine lv_istore (i := 4) (lv' := [(4, .int r30), (0, va_rf (some v0)), (1, .int x1), (2, .int x2), (3, .int x3)]) hx hb d_NJ_port_62 hl (by decide) rfl (fun ls hl => ?_)
      refine mx_aload_n (r := some v0) hx hb d_NJ_port_64 rfl (lv_at hl 1 rfl) ?_
      obtain ⟨t32, hw⟩ := hw
      refine mx_get (ci := 0) (C := "NetJoins") (T := F_NJ) (N := 18) hx hb hW hown hK.1 hR (a := v0) rfl t32 rfl i_NJ 0 2 (by decide) rfl kw_120 (fun _ h9 => h9) d_NJ_port_65 ?_
      refine lv_iload_n hx hb d_NJ_port_68 rfl (lv_at hl 2 rfl) ?_
      obtain ⟨a35, ea35, t36, hw⟩ := hw
      refine W.eq (g2 := F0 m 69 ls [.int x1, va_rf (some a35)]) (by rw [← ea35] <;> rfl) ?_
      refine mx_callr (va_runV (b := a35) (As := [.int x1]) (rest := []) ⟨hx, hb, hml, hown, hW⟩ (mt_AL_get l D cs Z _ hw) (mx_cwV hW ok_AL_get kw_196 rfl rfl ⟨Nat.le_of_ble_eq_true rfl, Nat.le_of_ble_eq_true rfl⟩) (mx_preV hK hZ hA hR (ci := 9) rfl t36) rfl rfl hl.1 rfl (lv_room (Nat.le_of_ble_eq_true rfl)) d_NJ_port_69 ⟨Nat.le_of_ble_eq_true rfl, Nat.le_of_ble_eq_true rfl⟩) hR hA (fun r33 h34 H locs hw hR => ?_)
      try dsimp only at hw
      obtain ⟨t37, hw⟩ := hw
      refine mx_cast (ci := 5) (C := "NetJoins$Sheet") (T := F_Sheet) (N := 5) hx hb hW hown hK.1 hR rfl kw_211 t37 d_NJ_port_72 ?_
      obtain ⟨a38, ea38, t39, hw⟩ := hw
      refine mx_get (ci := 5) (C := "NetJoins$Sheet") (T := F_Sheet) (N := 5) hx hb hW hown hK.1 hR (a := a38) ea38 t39 rfl i_Sheet 1 0 (by decide) rfl kw_524 (fun _ h9 => h9) d_NJ_port_75 ?_
      refine lv_iload_n hx hb d_NJ_port_78 rfl (lv_at hl 4 rfl) ?_
      refine mx_calli (va_runS (As := [.int (gI h34 501 a38), .int x3]) (rest := []) ⟨hx, hb, hml, hown, hW⟩ (mt_NJ_nameNode l D cs Z _ hw) (mx_cwS hW ok_NJ_nameNode kw_216 rfl rfl ⟨Nat.le_of_ble_eq_true rfl, Nat.le_of_ble_eq_true rfl⟩) (mx_preS hK hZ hA hR) rfl rfl hl.1 rfl (lv_room (Nat.le_of_ble_eq_true rfl)) d_NJ_port_79 ⟨Nat.le_of_ble_eq_true rfl, Nat.le_of_ble_eq_true rfl⟩) hR hA (fun r40 h41 H locs hw hR => ?_)
      try dsimp only at hw
      refine lv_istore (i := 5) (lv' := [(5, .int r40), (4, .int r30), (0, va_rf (some v0)), (1, .int x1), (2, .int x2), (3, .int x3)]) hx hb d_NJ_port_82 hl (by decide) rfl (fun ls hl => ?_)
      refine mx_aload_n (r := some v0) hx hb d_NJ_port_84 rfl (lv_at hl 2 rfl) ?_
      obtain ⟨t42, hw⟩ := hw
      refine mx_get (ci := 0) (C := "NetJoins") (T := F_NJ) (N := 18) hx hb hW hown hK.1 hR (a := v0) rfl t42 rfl i_NJ 6 2 (by decide) rfl kw_126 (fun _ h9 => h9) d_NJ_port_85 ?_
      refine mx_new (ci := 4) (C := "NetJoins$Port") (T := F_Port) (N := 5) hx hb hW hown hK.1 hR hA rfl i_Port t_Port t_Port_ok kw_389 kw_1018 kw_29 (fun q j hj => nf_Port _ q j hj) (by decide) (by decide) d_NJ_port_88 (fun q43 H tq43 hR => ?_)
      refine W.widen (k := 5) (n := 29) (by decide) (by decide) ?_
      have hw := hw q43 tq43
      obtain ⟨h44, eh44⟩ : ∃ z, z = nH h41 q43 20 0 := ⟨_, rfl⟩
      rw [← eh44] at hR
      have hw := hw h44 eh44
      refine lv_dup hx hb d_NJ_port_91 (mx_rf_cat _) ?_
      refine lv_iload_n hx hb d_NJ_port_92 rfl (lv_at hl 3 rfl) ?_
      refine lv_iload_n hx hb d_NJ_port_93 rfl (lv_at hl 4 rfl) ?_
      refine lv_iload_n hx hb d_NJ_port_94 rfl (lv_at hl 5 rfl) ?_
      refine lv_iload hx hb d_NJ_port_95 (lv_at hl 1 rfl) ?_
      refine lv_iload hx hb d_NJ_port_97 (lv_at hl 0 rfl) ?_
      refine mx_callv (va_runI (b := q43) (As := [.int x1, .int x2, .int x3, .int r30, .int r40]) (rest := [va_rf (some q43), va_rf (gR h41 6 v0)]) ⟨hx, hb, hml, hown, hW⟩ (mt_Port_init l D cs Z _ hw) (mx_cwI hW ok_Port_init kw_1019 rfl rfl ⟨Nat.le_of_ble_eq_true rfl, Nat.le_of_ble_eq_true rfl⟩) (mx_preS hK hZ hA hR) rfl rfl hl.1 rfl (lv_room (by simp [mx_rf_cat, cat_i, cat_l])) d_NJ_port_99 ⟨Nat.le_of_ble_eq_true rfl, Nat.le_of_ble_eq_true rfl⟩) hR hA (fun h46 H locs hw hR => ?_)
      try dsimp only at hw
      obtain ⟨a49, ea49, t50, hw⟩ := hw
      refine W.eq (g2 := F0 m 102 ls [va_rf (some q43), va_rf (some a49)]) (by rw [← ea49] <;> rfl) ?_
      refine mx_calli (va_runV (b := a49) (As := [va_rf (some q43)]) (rest := []) ⟨hx, hb, hml, hown, hW⟩ (mt_AL_add2 l D cs Z _ hw) (mx_cwV hW ok_AL_add2 kw_546 rfl rfl ⟨Nat.le_of_ble_eq_true rfl, Nat.le_of_ble_eq_true rfl⟩) (mx_preV hK hZ hA hR (ci := 9) rfl t50) rfl rfl hl.1 rfl (lv_room (Nat.le_of_ble_eq_true rfl)) d_NJ_port_102 ⟨Nat.le_of_ble_eq_true rfl, Nat.le_of_ble_eq_true rfl⟩) hR hA (fun r47 h48 H locs hw hR => ?_)
      refine W.widen (k := 6) (n := 229) (by decide) (by decide) ?_
      try dsimp only at hw
      refine lv_pop hx hb d_NJ_port_105 rfl ?_
      refine mx_aload_n (r := some v0) hx hb d_NJ_port_106 rfl (lv_at hl 2 rfl) ?_
      obtain ⟨t51, hw⟩ := hw
      refine mx_get (ci := 0) (C := "NetJoins") (T := F_NJ) (N := 18) hx hb hW hown hK.1 hR (a := v0) rfl t51 rfl i_NJ 10 2 (by decide) rfl kw_130 (fun _ h9 => h9) d_NJ_port_107 ?_
      refine lv_iload hx hb d_NJ_port_110 (lv_at hl 1 rfl) ?_
      refine lv_iload hx hb d_NJ_port_112 (lv_at hl 0 rfl) ?_
      obtain ⟨a54, ea54, t55, hw⟩ := hw
      refine W.eq (g2 := F0 m 114 ls [.int r40, .int r30, va_rf (some a54)]) (by rw [← ea54] <;> rfl) ?_
      refine mx_callv (va_runV (b := a54) (As := [.int r30, .int r40]) (rest := []) ⟨hx, hb, hml, hown, hW⟩ (mt_Joins_join l D cs Z _ hw) (mx_cwV hW ok_Joins_join kw_326 rfl rfl ⟨Nat.le_of_ble_eq_true rfl, Nat.le_of_ble_eq_true rfl⟩) (mx_preV hK hZ hA hR (ci := 2) rfl t55) rfl rfl hl.1 rfl (lv_room (Nat.le_of_ble_eq_true rfl)) d_NJ_port_114 ⟨Nat.le_of_ble_eq_true rfl, Nat.le_of_ble_eq_true rfl⟩) hR hA (fun h53 H locs hw hR => ?_)
      try dsimp only at hw
      refine mx_aload_n (r := some v0) hx hb d_NJ_port_117 rfl (lv_at hl 2 rfl) ?_
      obtain ⟨t58, hw⟩ := hw
      refine mx_callv (va_runV (b := v0) (As := []) (rest := []) ⟨hx, hb, hml, hown, hW⟩ (mt_NJ_keepUp l D cs Z _ hw) (mx_cwV hW ok_NJ_keepUp kw_606 rfl rfl ⟨Nat.le_of_ble_eq_true rfl, Nat.le_of_ble_eq_true rfl⟩) (mx_preV hK hZ hA hR (ci := 0) rfl t58) rfl rfl hl.1 rfl (lv_room (Nat.le_of_ble_eq_true rfl)) d_NJ_port_118 ⟨Nat.le_of_ble_eq_true rfl, Nat.le_of_ble_eq_true rfl⟩) hR hA (fun h57 H locs hw hR => ?_)
      try dsimp only at hw
      refine lv_iconst (v := 1) hx hb d_NJ_port_121 (by decide) ?_
      exact t_ret (mx_zret hx hb hr hlocks hR (Or.inr rfl) hw d_NJ_port_122)
    · have hw := hw.2 c21
      refine lv_iconst (v := 0) hx hb d_NJ_port_42 (by decide) ?_
      refine W.widen (k := 6) (n := 229) (by decide) (by decide) ?_
      exact t_ret (mx_zret hx hb hr hlocks hR (Or.inl rfl) hw d_NJ_port_43)
set_option maxHeartbeats 4000000 in
set_option maxRecDepth 100000 in
theorem mn_NJ_bus_110 {D : va_G} {cs : CS} {Z : Nat → Nat} {h0 : HS} {p : Program} {l : Launch} {e : Env} {s : State} {m : MethodId} {args : Array Value} {below : List Frame} {meth : Method} {c : Code} {v0 : Nat} (C : tC D cs Z h0 y_NJ_bus c_NJ_bus 7 (some .boolean) l p s m args meth c) (post : Int32 → HS → Prop) (exc : Nat → HS → Prop) (K71 : Int32 × Int32 × Int32 × HS → Prop) (hK71 : ∀ (x1 : Int32) (x5 : Int32) (x6 : Int32) (h : HS) (H : Heap) (locs : List Loc) (ls : Array Slot), K71 (x1, x5, x6, h) → lv_has ls 7 [(0, va_rf (some v0)), (1, .int x1), (5, .int x5), (6, .int x6)] → mR D cs (fA h0 s.heap.size) h s.heap H locs → W p l e ({ frames := 10, cells := 7, slots := 234, locals := 431 } : Room) s m args below meth c H locs 7 234 (tMQ D cs below (va_Qi post (mB D cs h0 s.heap.size) (fA h0 s.heap.size)) exc h0 s.heap.size args s 7 234) (F0 m 71 ls [])) : ∀ (x1 : Int32) (x5 : Int32) (x6 : Int32) (h : HS) (H : Heap) (locs : List Loc) (ls : Array Slot), wj_NJ_bus_110 Z post exc K71 v0 x1 x5 x6 h → lv_has ls 7 [(0, va_rf (some v0)), (1, .int x1), (5, .int x5), (6, .int x6)] → mR D cs (fA h0 s.heap.size) h s.heap H locs → W p l e ({ frames := 10, cells := 7, slots := 234, locals := 431 } : Room) s m args below meth c H locs 7 234 (tMQ D cs below (va_Qi post (mB D cs h0 s.heap.size) (fA h0 s.heap.size)) exc h0 s.heap.size args s 7 234) (F0 m 110 ls []) := by
  obtain ⟨⟨hx, hb, hr, hml, hown, hW, hlocks, hnm, hK, hZ⟩, hno, hlT⟩ := id C
  have hown : s.vm.findClass "NetJoins" = some m.cls := hown
  have hA : ∀ q, s.heap.size ≤ q → fA h0 s.heap.size q := fun _ h => Or.inr h
  intro x1 x5 x6 h H locs ls hw hl hR
  unfold wj_NJ_bus_110 at hw
  obtain ⟨y1, ey1⟩ : ∃ y : Int32, y = x6 + (1 : Int32) := ⟨_, rfl⟩
  have hw := hw y1 ey1
  refine lv_iinc (v := y1) (lv' := [(6, .int y1), (0, va_rf (some v0)), (1, .int x1), (5, .int x5)]) hx hb d_NJ_bus_110 hl (k := 3) rfl (by rw [ey1]; rfl) (by decide) rfl (fun ls hl => ?_)
  refine lv_goto (tgt := 71) hx hb d_NJ_bus_113 (by decide) ?_
  exact hK71 x1 x5 y1 _ _ _ _ hw (lv_sub hl [1, 2, 3, 0] rfl) hR
set_option maxHeartbeats 4000000 in
set_option maxRecDepth 100000 in
theorem mn_NJ_bus_71 {D : va_G} {cs : CS} {Z : Nat → Nat} {h0 : HS} {p : Program} {l : Launch} {e : Env} {s : State} {m : MethodId} {args : Array Value} {below : List Frame} {meth : Method} {c : Code} {v0 : Nat} (C : tC D cs Z h0 y_NJ_bus c_NJ_bus 7 (some .boolean) l p s m args meth c) (post : Int32 → HS → Prop) (exc : Nat → HS → Prop) : ∀ (n : Nat) (x1 : Int32) (x5 : Int32) (x6 : Int32) (h : HS) (H : Heap) (locs : List Loc) (ls : Array Slot), lpF (wb_NJ_bus_71 Z post exc v0) n (x1, x5, x6, h) → lv_has ls 7 [(0, va_rf (some v0)), (1, .int x1), (5, .int x5), (6, .int x6)] → mR D cs (fA h0 s.heap.size) h s.heap H locs → W p l e ({ frames := 10, cells := 7, slots := 234, locals := 431 } : Room) s m args below meth c H locs 7 234 (tMQ D cs below (va_Qi post (mB D cs h0 s.heap.size) (fA h0 s.heap.size)) exc h0 s.heap.size args s 7 234) (F0 m 71 ls []) := by
  obtain ⟨⟨hx, hb, hr, hml, hown, hW, hlocks, hnm, hK, hZ⟩, hno, hlT⟩ := id C
  have hown : s.vm.findClass "NetJoins" = some m.cls := hown
  have hA : ∀ q, s.heap.size ≤ q → fA h0 s.heap.size q := fun _ h => Or.inr h
  intro n
  induction n with
  | zero => intro x1 x5 x6 h H locs ls hw; exact hw.elim
  | succ n ih =>
    intro x1 x5 x6 h H locs ls hw hl hR
    have hw : wb_NJ_bus_71 Z post exc v0 (lpF (wb_NJ_bus_71 Z post exc v0) n) (x1, x5, x6, h) := hw
    unfold wb_NJ_bus_71 at hw
    dsimp only at hw
    refine lv_iload hx hb d_NJ_bus_71 (lv_at hl 3 rfl) ?_
    refine mx_aload_n (r := some v0) hx hb d_NJ_bus_73 rfl (lv_at hl 0 rfl) ?_
    obtain ⟨t1, hw⟩ := hw
    refine mx_get (ci := 0) (C := "NetJoins") (T := F_NJ) (N := 18) hx hb hW hown hK.1 hR (a := v0) rfl t1 rfl i_NJ 0 2 (by decide) rfl kw_120 (fun _ h9 => h9) d_NJ_bus_74 ?_
    obtain ⟨a4, ea4, t5, hw⟩ := hw
    refine W.eq (g2 := F0 m 77 ls [va_rf (some a4), .int x6]) (by rw [← ea4] <;> rfl) ?_
    refine mx_calli (va_runV (b := a4) (As := []) (rest := [.int x6]) ⟨hx, hb, hml, hown, hW⟩ (mt_AL_size l D cs Z _ hw) (mx_cwV hW ok_AL_size kw_192 rfl rfl ⟨Nat.le_of_ble_eq_true rfl, Nat.le_of_ble_eq_true rfl⟩) (mx_preV hK hZ hA hR (ci := 9) rfl t5) rfl rfl hl.1 rfl (lv_room (Nat.le_of_ble_eq_true rfl)) d_NJ_bus_77 ⟨Nat.le_of_ble_eq_true rfl, Nat.le_of_ble_eq_true rfl⟩) hR hA (fun r2 h3 H locs hw hR => ?_)
    try dsimp only at hw
    refine lv_icmp_ge (tgt := 116) hx hb d_NJ_bus_80 (by decide) (fun c6 => ?_) (fun c6 => ?_)
    · have hw := hw.1 c6
      refine mx_aload_n (r := some v0) hx hb d_NJ_bus_116 rfl (lv_at hl 0 rfl) ?_
      obtain ⟨t9, hw⟩ := hw
      refine mx_callv (va_runV (b := v0) (As := []) (rest := []) ⟨hx, hb, hml, hown, hW⟩ (mt_NJ_keepUp l D cs Z _ hw) (mx_cwV hW ok_NJ_keepUp kw_606 rfl rfl ⟨Nat.le_of_ble_eq_true rfl, Nat.le_of_ble_eq_true rfl⟩) (mx_preV hK hZ hA hR (ci := 0) rfl t9) rfl rfl hl.1 rfl (lv_room (Nat.le_of_ble_eq_true rfl)) d_NJ_bus_117 ⟨Nat.le_of_ble_eq_true rfl, Nat.le_of_ble_eq_true rfl⟩) hR hA (fun h8 H locs hw hR => ?_)
      try dsimp only at hw
      refine lv_iconst (v := 1) hx hb d_NJ_bus_120 (by decide) ?_
      exact t_ret (mx_zret hx hb hr hlocks hR (Or.inr rfl) hw d_NJ_bus_121)
    · have hw := hw.2 c6
      refine mx_aload_n (r := some v0) hx hb d_NJ_bus_83 rfl (lv_at hl 0 rfl) ?_
      obtain ⟨t10, hw⟩ := hw
      refine mx_get (ci := 0) (C := "NetJoins") (T := F_NJ) (N := 18) hx hb hW hown hK.1 hR (a := v0) rfl t10 rfl i_NJ 0 2 (by decide) rfl kw_120 (fun _ h9 => h9) d_NJ_bus_84 ?_
      refine lv_iload hx hb d_NJ_bus_87 (lv_at hl 3 rfl) ?_
      obtain ⟨a13, ea13, t14, hw⟩ := hw
      refine W.eq (g2 := F0 m 89 ls [.int x6, va_rf (some a13)]) (by rw [← ea13] <;> rfl) ?_
      refine mx_callr (va_runV (b := a13) (As := [.int x6]) (rest := []) ⟨hx, hb, hml, hown, hW⟩ (mt_AL_get l D cs Z _ hw) (mx_cwV hW ok_AL_get kw_196 rfl rfl ⟨Nat.le_of_ble_eq_true rfl, Nat.le_of_ble_eq_true rfl⟩) (mx_preV hK hZ hA hR (ci := 9) rfl t14) rfl rfl hl.1 rfl (lv_room (Nat.le_of_ble_eq_true rfl)) d_NJ_bus_89 ⟨Nat.le_of_ble_eq_true rfl, Nat.le_of_ble_eq_true rfl⟩) hR hA (fun r11 h12 H locs hw hR => ?_)
      try dsimp only at hw
      obtain ⟨t15, hw⟩ := hw
      refine mx_cast (ci := 5) (C := "NetJoins$Sheet") (T := F_Sheet) (N := 5) hx hb hW hown hK.1 hR rfl kw_211 t15 d_NJ_bus_92 ?_
      obtain ⟨a16, ea16, t17, hw⟩ := hw
      refine mx_get (ci := 5) (C := "NetJoins$Sheet") (T := F_Sheet) (N := 5) hx hb hW hown hK.1 hR (a := a16) ea16 t17 rfl i_Sheet 2 0 (by decide) rfl kw_526 (fun _ h9 => h9) d_NJ_bus_95 ?_
      refine lv_iload_n hx hb d_NJ_bus_98 rfl (lv_at hl 1 rfl) ?_
      refine lv_icmp_ne (tgt := 110) hx hb d_NJ_bus_99 (by decide) (fun c18 => ?_) (fun c18 => ?_)
      · have hw := hw.1 c18
        exact mn_NJ_bus_110 C post exc (lpF (wb_NJ_bus_71 Z post exc v0) n) ih x1 x5 x6 _ _ _ _ hw (lv_sub hl [0, 1, 2, 3] rfl) hR
      · have hw := hw.2 c18
        refine mx_aload_n (r := some v0) hx hb d_NJ_bus_102 rfl (lv_at hl 0 rfl) ?_
        refine lv_iload hx hb d_NJ_bus_103 (lv_at hl 2 rfl) ?_
        refine lv_iload hx hb d_NJ_bus_105 (lv_at hl 3 rfl) ?_
        obtain ⟨t21, hw⟩ := hw
        refine mx_callv (va_runV (b := v0) (As := [.int x5, .int x6]) (rest := []) ⟨hx, hb, hml, hown, hW⟩ (mt_NJ_joinBus l D cs Z _ hw) (mx_cwV hW ok_NJ_joinBus kw_365 rfl rfl ⟨Nat.le_of_ble_eq_true rfl, Nat.le_of_ble_eq_true rfl⟩) (mx_preV hK hZ hA hR (ci := 0) rfl t21) rfl rfl hl.1 rfl (lv_room (Nat.le_of_ble_eq_true rfl)) d_NJ_bus_107 ⟨Nat.le_of_ble_eq_true rfl, Nat.le_of_ble_eq_true rfl⟩) hR hA (fun h20 H locs hw hR => ?_)
        try dsimp only at hw
        exact mn_NJ_bus_110 C post exc (lpF (wb_NJ_bus_71 Z post exc v0) n) ih x1 x5 x6 _ _ _ _ hw (lv_sub hl [0, 1, 2, 3] rfl) hR
set_option maxHeartbeats 4000000 in
set_option maxRecDepth 100000 in
theorem mt_NJ_bus (l : Launch) (hlT : l.stackTraces = false) (D : va_G) (cs : CS) (Z : Nat → Nat) (sz : Nat) {post : Int32 → HS → Prop} {exc : Nat → HS → Prop} {h : HS} {v0 : Nat} {x1 : Int32} {x2 : Int32} {x3 : Int32} {x4 : Int32} (hw : wp_NJ_bus Z post exc h v0 x1 x2 x3 x4) : TMet l y_NJ_bus (Cond.code y_NJ_bus c_NJ_bus 7 (some .boolean) :: WA) ({ frames := 10, cells := 7, slots := 234, locals := 431 } : Room) D cs (mPc D cs Z h sz [va_rf (some v0), .int x1, .int x2, .int x3, .int x4]) (va_Qi post (mB D cs h sz) (fA h sz)) exc h sz 7 234 := by
  refine mx_tmet (fun sz => va_Qi post (mB D cs h sz) (fA h sz)) (by decide) hlT (by simp [lg_sl, mx_rf_cat, cat_i, cat_l]) ?_
  intro p e s m args below meth c C hR ls hl
  have hl : lv_has ls 7 [(0, va_rf (some v0)), (1, .int x1), (2, .int x2), (3, .int x3), (4, .int x4)] := hl
  obtain ⟨⟨hx, hb, hr, hml, hown, hW, hlocks, hnm, hK, hZ⟩, hno, -⟩ := id C
  have hown : s.vm.findClass "NetJoins" = some m.cls := hown
  have hA : ∀ q, s.heap.size ≤ q → fA h s.heap.size q := fun _ h => Or.inr h
  unfold wp_NJ_bus at hw
  refine mx_aload_n (r := some v0) hx hb d_NJ_bus_0 rfl (lv_at hl 0 rfl) ?_
  refine lv_iload_n hx hb d_NJ_bus_1 rfl (lv_at hl 1 rfl) ?_
  obtain ⟨t3, hw⟩ := hw
  refine mx_tcallV (As := [.int x1]) (rest := []) (b := v0) (ci := 0) hx hb hml hown hW hK hZ hlocks hno hR hA ok_NJ_needDrawn kw_496 (mt_NJ_needDrawn l hlT D cs Z _ hw) rfl rfl ⟨Nat.le_of_ble_eq_true rfl, Nat.le_of_ble_eq_true rfl⟩ rfl t3 rfl hl.1 rfl (Nat.le_of_ble_eq_true rfl) d_NJ_bus_2 ⟨Nat.le_of_ble_eq_true rfl, Nat.le_of_ble_eq_true rfl⟩ ⟨by decide, by decide⟩ (fun h2 H locs hw hR => ?_)
  refine W.widen (k := 2) (n := 12) (by decide) (by decide) ?_
  try dsimp only at hw
  refine lv_iload_n hx hb d_NJ_bus_5 rfl (lv_at hl 2 rfl) ?_
  refine mx_tcallS (As := [.int x2]) (rest := []) hx hb hml hown hW hK hZ hlocks hno hR hA ok_NJ_needName kw_732 (mt_NJ_needName l hlT D cs Z _ hw) rfl rfl ⟨Nat.le_of_ble_eq_true rfl, Nat.le_of_ble_eq_true rfl⟩ rfl hl.1 rfl (Nat.le_of_ble_eq_true rfl) d_NJ_bus_6 ⟨Nat.le_of_ble_eq_true rfl, Nat.le_of_ble_eq_true rfl⟩ ⟨by decide, by decide⟩ (fun h5 H locs hw hR => ?_)
  refine W.widen (k := 3) (n := 18) (by decide) (by decide) ?_
  try dsimp only at hw
  refine lv_iload_n hx hb d_NJ_bus_9 rfl (lv_at hl 3 rfl) ?_
  refine mx_tcallS (As := [.int x3]) (rest := []) hx hb hml hown hW hK hZ hlocks hno hR hA ok_NJ_needName kw_732 (mt_NJ_needName l hlT D cs Z _ hw) rfl rfl ⟨Nat.le_of_ble_eq_true rfl, Nat.le_of_ble_eq_true rfl⟩ rfl hl.1 rfl (Nat.le_of_ble_eq_true rfl) d_NJ_bus_10 ⟨Nat.le_of_ble_eq_true rfl, Nat.le_of_ble_eq_true rfl⟩ ⟨by decide, by decide⟩ (fun h7 H locs hw hR => ?_)
  refine W.widen (k := 4) (n := 24) (by decide) (by decide) ?_
  try dsimp only at hw
  refine lv_iload hx hb d_NJ_bus_13 (lv_at hl 4 rfl) ?_
  refine mx_tcallS (As := [.int x4]) (rest := []) hx hb hml hown hW hK hZ hlocks hno hR hA ok_NJ_needName kw_732 (mt_NJ_needName l hlT D cs Z _ hw) rfl rfl ⟨Nat.le_of_ble_eq_true rfl, Nat.le_of_ble_eq_true rfl⟩ rfl hl.1 rfl (Nat.le_of_ble_eq_true rfl) d_NJ_bus_15 ⟨Nat.le_of_ble_eq_true rfl, Nat.le_of_ble_eq_true rfl⟩ ⟨by decide, by decide⟩ (fun h9 H locs hw hR => ?_)
  refine W.widen (k := 5) (n := 30) (by decide) (by decide) ?_
  try dsimp only at hw
  refine mx_aload_n (r := some v0) hx hb d_NJ_bus_18 rfl (lv_at hl 0 rfl) ?_
  obtain ⟨t10, hw⟩ := hw
  refine mx_get (ci := 0) (C := "NetJoins") (T := F_NJ) (N := 18) hx hb hW hown hK.1 hR (a := v0) rfl t10 rfl i_NJ 7 2 (by decide) rfl kw_127 (fun _ h9 => h9) d_NJ_bus_19 ?_
  obtain ⟨a13, ea13, t14, hw⟩ := hw
  refine W.eq (g2 := F0 m 22 ls [va_rf (some a13)]) (by rw [← ea13] <;> rfl) ?_
  refine mx_calli (va_runV (b := a13) (As := []) (rest := []) ⟨hx, hb, hml, hown, hW⟩ (mt_AL_size l D cs Z _ hw) (mx_cwV hW ok_AL_size kw_192 rfl rfl ⟨Nat.le_of_ble_eq_true rfl, Nat.le_of_ble_eq_true rfl⟩) (mx_preV hK hZ hA hR (ci := 9) rfl t14) rfl rfl hl.1 rfl (lv_room (Nat.le_of_ble_eq_true rfl)) d_NJ_bus_22 ⟨Nat.le_of_ble_eq_true rfl, Nat.le_of_ble_eq_true rfl⟩) hR hA (fun r11 h12 H locs hw hR => ?_)
  try dsimp only at hw
  refine lv_istore (i := 5) (lv' := [(5, .int r11), (0, va_rf (some v0)), (1, .int x1), (2, .int x2), (3, .int x3), (4, .int x4)]) hx hb d_NJ_bus_25 hl (by decide) rfl (fun ls hl => ?_)
  refine lv_iload hx hb d_NJ_bus_27 (lv_at hl 0 rfl) ?_
  refine lv_bipush (v := 16) hx hb d_NJ_bus_29 (by decide) ?_
  refine lv_icmp_ge (tgt := 46) hx hb d_NJ_bus_31 (by decide) (fun c15 => ?_) (fun c15 => ?_)
  · have hw := hw.1 c15
    refine lv_iconst (v := 0) hx hb d_NJ_bus_46 (by decide) ?_
    refine W.widen (k := 7) (n := 234) (by decide) (by decide) ?_
    exact t_ret (mx_zret hx hb hr hlocks hR (Or.inl rfl) hw d_NJ_bus_47)
  · have hw := hw.2 c15
    refine mx_aload_n (r := some v0) hx hb d_NJ_bus_34 rfl (lv_at hl 1 rfl) ?_
    refine lv_iload_n hx hb d_NJ_bus_35 rfl (lv_at hl 2 rfl) ?_
    refine lv_iload_n hx hb d_NJ_bus_36 rfl (lv_at hl 3 rfl) ?_
    refine lv_iload_n hx hb d_NJ_bus_37 rfl (lv_at hl 4 rfl) ?_
    refine lv_iload hx hb d_NJ_bus_38 (lv_at hl 5 rfl) ?_
    obtain ⟨t18, hw⟩ := hw
    refine mx_calli (va_runV (b := v0) (As := [.int x1, .int x2, .int x3, .int x4]) (rest := []) ⟨hx, hb, hml, hown, hW⟩ (mt_NJ_hasBus l D cs Z _ hw) (mx_cwV hW ok_NJ_hasBus kw_1051 rfl rfl ⟨Nat.le_of_ble_eq_true rfl, Nat.le_of_ble_eq_true rfl⟩) (mx_preV hK hZ hA hR (ci := 0) rfl t18) rfl rfl hl.1 rfl (lv_room (Nat.le_of_ble_eq_true rfl)) d_NJ_bus_40 ⟨Nat.le_of_ble_eq_true rfl, Nat.le_of_ble_eq_true rfl⟩) hR hA (fun r16 h17 H locs hw hR => ?_)
    try dsimp only at hw
    refine lv_if_eq (tgt := 48) hx hb d_NJ_bus_43 (by decide) (fun c19 => ?_) (fun c19 => ?_)
    · have hw := hw.1 c19
      refine mx_aload_n (r := some v0) hx hb d_NJ_bus_48 rfl (lv_at hl 1 rfl) ?_
      obtain ⟨t20, hw⟩ := hw
      refine mx_get (ci := 0) (C := "NetJoins") (T := F_NJ) (N := 18) hx hb hW hown hK.1 hR (a := v0) rfl t20 rfl i_NJ 7 2 (by decide) rfl kw_127 (fun _ h9 => h9) d_NJ_bus_49 ?_
      refine mx_new (ci := 1) (C := "NetJoins$Bus") (T := F_Bus) (N := 4) hx hb hW hown hK.1 hR hA rfl i_Bus t_Bus t_Bus_ok kw_364 kw_1055 kw_30 (fun q j hj => nf_Bus _ q j hj) (by decide) (by decide) d_NJ_bus_52 (fun q21 H tq21 hR => ?_)
      refine W.widen (k := 6) (n := 34) (by decide) (by decide) ?_
      have hw := hw q21 tq21
      obtain ⟨h22, eh22⟩ : ∃ z, z = nH h17 q21 17 0 := ⟨_, rfl⟩
      rw [← eh22] at hR
      have hw := hw h22 eh22
      refine lv_dup hx hb d_NJ_bus_55 (mx_rf_cat _) ?_
      refine lv_iload_n hx hb d_NJ_bus_56 rfl (lv_at hl 2 rfl) ?_
      refine lv_iload_n hx hb d_NJ_bus_57 rfl (lv_at hl 3 rfl) ?_
      refine lv_iload_n hx hb d_NJ_bus_58 rfl (lv_at hl 4 rfl) ?_
      refine lv_iload hx hb d_NJ_bus_59 (lv_at hl 5 rfl) ?_
      refine mx_callv (va_runI (b := q21) (As := [.int x1, .int x2, .int x3, .int x4]) (rest := [va_rf (some q21), va_rf (gR h17 7 v0)]) ⟨hx, hb, hml, hown, hW⟩ (mt_Bus_init l D cs Z _ hw) (mx_cwI hW ok_Bus_init kw_1056 rfl rfl ⟨Nat.le_of_ble_eq_true rfl, Nat.le_of_ble_eq_true rfl⟩) (mx_preS hK hZ hA hR) rfl rfl hl.1 rfl (lv_room (by simp [mx_rf_cat, cat_i, cat_l])) d_NJ_bus_61 ⟨Nat.le_of_ble_eq_true rfl, Nat.le_of_ble_eq_true rfl⟩) hR hA (fun h24 H locs hw hR => ?_)
      try dsimp only at hw
      obtain ⟨a27, ea27, t28, hw⟩ := hw
      refine W.eq (g2 := F0 m 64 ls [va_rf (some q21), va_rf (some a27)]) (by rw [← ea27] <;> rfl) ?_
      refine mx_calli (va_runV (b := a27) (As := [va_rf (some q21)]) (rest := []) ⟨hx, hb, hml, hown, hW⟩ (mt_AL_add2 l D cs Z _ hw) (mx_cwV hW ok_AL_add2 kw_546 rfl rfl ⟨Nat.le_of_ble_eq_true rfl, Nat.le_of_ble_eq_true rfl⟩) (mx_preV hK hZ hA hR (ci := 9) rfl t28) rfl rfl hl.1 rfl (lv_room (Nat.le_of_ble_eq_true rfl)) d_NJ_bus_64 ⟨Nat.le_of_ble_eq_true rfl, Nat.le_of_ble_eq_true rfl⟩) hR hA (fun r25 h26 H locs hw hR => ?_)
      refine W.widen (k := 7) (n := 234) (by decide) (by decide) ?_
      try dsimp only at hw
      refine lv_pop hx hb d_NJ_bus_67 rfl ?_
      refine lv_iconst (v := 0) hx hb d_NJ_bus_68 (by decide) ?_
      refine lv_istore (i := 6) (lv' := [(6, .int (0 : Int32)), (5, .int r11), (0, va_rf (some v0)), (1, .int x1), (2, .int x2), (3, .int x3), (4, .int x4)]) hx hb d_NJ_bus_69 hl (by decide) rfl (fun ls hl => ?_)
      obtain ⟨n9, hw⟩ := hw
      exact mn_NJ_bus_71 C post exc n9 x1 r11 (0 : Int32) _ _ _ _ hw (lv_sub hl [2, 3, 1, 0] rfl) hR
    · have hw := hw.2 c19
      refine lv_iconst (v := 0) hx hb d_NJ_bus_46 (by decide) ?_
      refine W.widen (k := 7) (n := 234) (by decide) (by decide) ?_
      exact t_ret (mx_zret hx hb hr hlocks hR (Or.inl rfl) hw d_NJ_bus_47)
set_option maxHeartbeats 4000000 in
set_option maxRecDepth 100000 in
theorem mt_NJ_needPin (l : Launch) (hlT : l.stackTraces = false) (D : va_G) (cs : CS) (Z : Nat → Nat) (sz : Nat) {post : HS → Prop} {exc : Nat → HS → Prop} {h : HS} {v0 : Nat} {x1 : Int32} (hw : wp_NJ_needPin Z post exc h v0 x1) : TMet l y_NJ_needPin (Cond.code y_NJ_needPin c_NJ_needPin 2 none :: WA) ({ frames := 8, cells := 1, slots := 6, locals := 200 } : Room) D cs (mPc D cs Z h sz [va_rf (some v0), .int x1]) (va_Qv post (mB D cs h sz) (fA h sz)) exc h sz 1 6 := by
  refine mx_tmet (fun sz => va_Qv post (mB D cs h sz) (fA h sz)) (by decide) hlT (by simp [lg_sl, mx_rf_cat, cat_i, cat_l]) ?_
  intro p e s m args below meth c C hR ls hl
  have hl : lv_has ls 2 [(0, va_rf (some v0)), (1, .int x1)] := hl
  obtain ⟨⟨hx, hb, hr, hml, hown, hW, hlocks, hnm, hK, hZ⟩, hno, -⟩ := id C
  have hown : s.vm.findClass "NetJoins" = some m.cls := hown
  have hA : ∀ q, s.heap.size ≤ q → fA h s.heap.size q := fun _ h => Or.inr h
  unfold wp_NJ_needPin at hw
  refine lv_iload_n hx hb d_NJ_needPin_0 rfl (lv_at hl 1 rfl) ?_
  refine lv_if_lt (tgt := 15) hx hb d_NJ_needPin_1 (by decide) (fun c1 => ?_) (fun c1 => ?_)
  · have hw := hw.1 c1
    exact mx_throw (k := 1) (ic := 221) (ik := 217) (is := 293) (n4 := 3) (tx := "no such pin") hx hb hlT hown hW hK hZ hlocks hno (hl.1.trans hml.symm) hR t_at1 (by decide) (by decide +kernel) kw_428 kw_12 (by decide) d_NJ_needPin_15 d_NJ_needPin_18 (Or.inr ⟨d_NJ_needPin_19, rfl⟩) d_NJ_needPin_22 d_NJ_needPin_25 (by decide) (Nat.le_of_ble_eq_true rfl) (by decide) (by decide) (by decide) (by decide) hw
  · have hw := hw.2 c1
    refine lv_iload_n hx hb d_NJ_needPin_4 rfl (lv_at hl 1 rfl) ?_
    refine mx_aload_n (r := some v0) hx hb d_NJ_needPin_5 rfl (lv_at hl 0 rfl) ?_
    obtain ⟨t2, hw⟩ := hw
    refine mx_get (ci := 0) (C := "NetJoins") (T := F_NJ) (N := 18) hx hb hW hown hK.1 hR (a := v0) rfl t2 rfl i_NJ 5 2 (by decide) rfl kw_125 (fun _ h9 => h9) d_NJ_needPin_6 ?_
    obtain ⟨a5, ea5, t6, hw⟩ := hw
    refine W.eq (g2 := F0 m 9 ls [va_rf (some a5), .int x1]) (by rw [← ea5] <;> rfl) ?_
    refine mx_calli (va_runV (b := a5) (As := []) (rest := [.int x1]) ⟨hx, hb, hml, hown, hW⟩ (mt_AL_size l D cs Z _ hw) (mx_cwV hW ok_AL_size kw_192 rfl rfl ⟨Nat.le_of_ble_eq_true rfl, Nat.le_of_ble_eq_true rfl⟩) (mx_preV hK hZ hA hR (ci := 9) rfl t6) rfl rfl hl.1 rfl (lv_room (Nat.le_of_ble_eq_true rfl)) d_NJ_needPin_9 ⟨Nat.le_of_ble_eq_true rfl, Nat.le_of_ble_eq_true rfl⟩) hR hA (fun r3 h4 H locs hw hR => ?_)
    try dsimp only at hw
    refine lv_icmp_lt (tgt := 26) hx hb d_NJ_needPin_12 (by decide) (fun c7 => ?_) (fun c7 => ?_)
    · have hw := hw.1 c7
      refine W.widen (k := 1) (n := 6) (by decide) (by decide) ?_
      exact t_ret (mx_vret hx hb hr hlocks hR hw d_NJ_needPin_26)
    · have hw := hw.2 c7
      exact mx_throw (k := 1) (ic := 221) (ik := 217) (is := 293) (n4 := 3) (tx := "no such pin") hx hb hlT hown hW hK hZ hlocks hno (hl.1.trans hml.symm) hR t_at1 (by decide) (by decide +kernel) kw_428 kw_12 (by decide) d_NJ_needPin_15 d_NJ_needPin_18 (Or.inr ⟨d_NJ_needPin_19, rfl⟩) d_NJ_needPin_22 d_NJ_needPin_25 (by decide) (Nat.le_of_ble_eq_true rfl) (by decide) (by decide) (by decide) (by decide) hw
set_option maxHeartbeats 4000000 in
set_option maxRecDepth 100000 in
theorem mt_NJ_netOf (l : Launch) (hlT : l.stackTraces = false) (D : va_G) (cs : CS) (Z : Nat → Nat) (sz : Nat) {post : Int32 → HS → Prop} {exc : Nat → HS → Prop} {h : HS} {v0 : Nat} {x1 : Int32} {x2 : Int32} (hw : wp_NJ_netOf Z post exc h v0 x1 x2) : TMet l y_NJ_netOf (Cond.code y_NJ_netOf c_NJ_netOf 3 (some .int) :: WA) ({ frames := 9, cells := 2, slots := 12, locals := 221 } : Room) D cs (mPc D cs Z h sz [va_rf (some v0), .int x1, .int x2]) (va_Qi post (mB D cs h sz) (fA h sz)) exc h sz 2 12 := by
  refine mx_tmet (fun sz => va_Qi post (mB D cs h sz) (fA h sz)) (by decide) hlT (by simp [lg_sl, mx_rf_cat, cat_i, cat_l]) ?_
  intro p e s m args below meth c C hR ls hl
  have hl : lv_has ls 3 [(0, va_rf (some v0)), (1, .int x1), (2, .int x2)] := hl
  obtain ⟨⟨hx, hb, hr, hml, hown, hW, hlocks, hnm, hK, hZ⟩, hno, -⟩ := id C
  have hown : s.vm.findClass "NetJoins" = some m.cls := hown
  have hA : ∀ q, s.heap.size ≤ q → fA h s.heap.size q := fun _ h => Or.inr h
  unfold wp_NJ_netOf at hw
  refine mx_aload_n (r := some v0) hx hb d_NJ_netOf_0 rfl (lv_at hl 0 rfl) ?_
  refine lv_iload_n hx hb d_NJ_netOf_1 rfl (lv_at hl 1 rfl) ?_
  obtain ⟨t3, hw⟩ := hw
  refine mx_tcallV (As := [.int x1]) (rest := []) (b := v0) (ci := 0) hx hb hml hown hW hK hZ hlocks hno hR hA ok_NJ_needPin kw_1084 (mt_NJ_needPin l hlT D cs Z _ hw) rfl rfl ⟨Nat.le_of_ble_eq_true rfl, Nat.le_of_ble_eq_true rfl⟩ rfl t3 rfl hl.1 rfl (Nat.le_of_ble_eq_true rfl) d_NJ_netOf_2 ⟨Nat.le_of_ble_eq_true rfl, Nat.le_of_ble_eq_true rfl⟩ ⟨by decide, by decide⟩ (fun h2 H locs hw hR => ?_)
  refine W.widen (k := 1) (n := 6) (by decide) (by decide) ?_
  try dsimp only at hw
  refine lv_iload_n hx hb d_NJ_netOf_5 rfl (lv_at hl 2 rfl) ?_
  refine lv_if_lt (tgt := 31) hx hb d_NJ_netOf_6 (by decide) (fun c4 => ?_) (fun c4 => ?_)
  · have hw := hw.1 c4
    exact mx_throw (k := 1) (ic := 221) (ik := 217) (is := 244) (n4 := 2) (tx := "no such copy") hx hb hlT hown hW hK hZ hlocks hno (hl.1.trans hml.symm) hR t_at1 (by decide) (by decide +kernel) kw_428 kw_12 (by decide) d_NJ_netOf_31 d_NJ_netOf_34 (Or.inl ⟨d_NJ_netOf_35, rfl⟩) d_NJ_netOf_37 d_NJ_netOf_40 (by decide) (Nat.le_of_ble_eq_true rfl) (by decide) (by decide) (by decide) (by decide) hw
  · have hw := hw.2 c4
    refine lv_iload_n hx hb d_NJ_netOf_9 rfl (lv_at hl 2 rfl) ?_
    refine mx_aload_n (r := some v0) hx hb d_NJ_netOf_10 rfl (lv_at hl 0 rfl) ?_
    refine mx_aload_n (r := some v0) hx hb d_NJ_netOf_11 rfl (lv_at hl 0 rfl) ?_
    obtain ⟨t5, hw⟩ := hw
    refine mx_get (ci := 0) (C := "NetJoins") (T := F_NJ) (N := 18) hx hb hW hown hK.1 hR (a := v0) rfl t5 rfl i_NJ 5 2 (by decide) rfl kw_125 (fun _ h9 => h9) d_NJ_netOf_12 ?_
    refine lv_iload_n hx hb d_NJ_netOf_15 rfl (lv_at hl 1 rfl) ?_
    obtain ⟨a8, ea8, t9, hw⟩ := hw
    refine W.eq (g2 := F0 m 16 ls [.int x1, va_rf (some a8), va_rf (some v0), .int x2]) (by rw [← ea8] <;> rfl) ?_
    refine mx_callr (va_runV (b := a8) (As := [.int x1]) (rest := [va_rf (some v0), .int x2]) ⟨hx, hb, hml, hown, hW⟩ (mt_AL_get l D cs Z _ hw) (mx_cwV hW ok_AL_get kw_196 rfl rfl ⟨Nat.le_of_ble_eq_true rfl, Nat.le_of_ble_eq_true rfl⟩) (mx_preV hK hZ hA hR (ci := 9) rfl t9) rfl rfl hl.1 rfl (lv_room (Nat.le_of_ble_eq_true rfl)) d_NJ_netOf_16 ⟨Nat.le_of_ble_eq_true rfl, Nat.le_of_ble_eq_true rfl⟩) hR hA (fun r6 h7 H locs hw hR => ?_)
    try dsimp only at hw
    obtain ⟨t10, hw⟩ := hw
    refine mx_cast (ci := 6) (C := "NetJoins$Spot") (T := F_Spot) (N := 6) hx hb hW hown hK.1 hR rfl kw_210 t10 d_NJ_netOf_19 ?_
    obtain ⟨a11, ea11, t12, hw⟩ := hw
    refine mx_get (ci := 6) (C := "NetJoins$Spot") (T := F_Spot) (N := 6) hx hb hW hown hK.1 hR (a := a11) ea11 t12 rfl i_Spot 0 0 (by decide) rfl kw_700 (fun _ h9 => h9) d_NJ_netOf_22 ?_
    obtain ⟨t15, hw⟩ := hw
    refine mx_calli (va_runV (b := v0) (As := [.int (gI h7 600 a11)]) (rest := [.int x2]) ⟨hx, hb, hml, hown, hW⟩ (mt_NJ_copiesOf l D cs Z _ hw) (mx_cwV hW ok_NJ_copiesOf kw_279 rfl rfl ⟨Nat.le_of_ble_eq_true rfl, Nat.le_of_ble_eq_true rfl⟩) (mx_preV hK hZ hA hR (ci := 0) rfl t15) rfl rfl hl.1 rfl (lv_room (Nat.le_of_ble_eq_true rfl)) d_NJ_netOf_25 ⟨Nat.le_of_ble_eq_true rfl, Nat.le_of_ble_eq_true rfl⟩) hR hA (fun r13 h14 H locs hw hR => ?_)
    try dsimp only at hw
    refine lv_icmp_lt (tgt := 41) hx hb d_NJ_netOf_28 (by decide) (fun c16 => ?_) (fun c16 => ?_)
    · have hw := hw.1 c16
      refine mx_aload_n (r := some v0) hx hb d_NJ_netOf_41 rfl (lv_at hl 0 rfl) ?_
      obtain ⟨t17, hw⟩ := hw
      refine mx_get (ci := 0) (C := "NetJoins") (T := F_NJ) (N := 18) hx hb hW hown hK.1 hR (a := v0) rfl t17 rfl i_NJ 11 2 (by decide) rfl kw_131 (fun _ h9 => h9) d_NJ_netOf_42 ?_
      obtain ⟨a18, ea18, t19, hw⟩ := hw
      refine mx_get (ci := 3) (C := "NetJoins$NetTable") (T := F_Tab) (N := 7) hx hb hW hown hK.1 hR (a := a18) ea18 t19 rfl i_Tab 2 2 (by decide) rfl kw_97 (fun _ h9 => h9) d_NJ_netOf_45 ?_
      refine lv_iload_n hx hb d_NJ_netOf_48 rfl (lv_at hl 1 rfl) ?_
      refine lv_iload_n hx hb d_NJ_netOf_49 rfl (lv_at hl 2 rfl) ?_
      refine mx_calli (va_runS (As := [.int x1, .int x2]) (rest := [va_rf (gR h14 302 a18)]) ⟨hx, hb, hml, hown, hW⟩ (mt_NJ_pinNode l D cs Z _ hw) (mx_cwS hW ok_NJ_pinNode kw_283 rfl rfl ⟨Nat.le_of_ble_eq_true rfl, Nat.le_of_ble_eq_true rfl⟩) (mx_preS hK hZ hA hR) rfl rfl hl.1 rfl (lv_room (by simp [mx_rf_cat, cat_i, cat_l])) d_NJ_netOf_50 ⟨Nat.le_of_ble_eq_true rfl, Nat.le_of_ble_eq_true rfl⟩) hR hA (fun r20 h21 H locs hw hR => ?_)
      try dsimp only at hw
      obtain ⟨a22, ea22, t23, t23i, hw⟩ := hw
      refine mx_iald hx hb hK.1 hR (a := a22) ea22 t23 t23i d_NJ_netOf_53 ?_
      refine W.widen (k := 2) (n := 12) (by decide) (by decide) ?_
      exact t_ret (mx_iret hx hb hr hlocks hR hw d_NJ_netOf_54)
    · have hw := hw.2 c16
      exact mx_throw (k := 1) (ic := 221) (ik := 217) (is := 244) (n4 := 2) (tx := "no such copy") hx hb hlT hown hW hK hZ hlocks hno (hl.1.trans hml.symm) hR t_at1 (by decide) (by decide +kernel) kw_428 kw_12 (by decide) d_NJ_netOf_31 d_NJ_netOf_34 (Or.inl ⟨d_NJ_netOf_35, rfl⟩) d_NJ_netOf_37 d_NJ_netOf_40 (by decide) (Nat.le_of_ble_eq_true rfl) (by decide) (by decide) (by decide) (by decide) hw
set_option maxHeartbeats 4000000 in
set_option maxRecDepth 100000 in
theorem mt_NJ_rank (l : Launch) (hlT : l.stackTraces = false) (D : va_G) (cs : CS) (Z : Nat → Nat) (sz : Nat) {post : Int32 → HS → Prop} {exc : Nat → HS → Prop} {h : HS} {v0 : Nat} {x1 : Int32} {x2 : Int32} (hw : wp_NJ_rank Z post exc h v0 x1 x2) : TMet l y_NJ_rank (Cond.code y_NJ_rank c_NJ_rank 3 (some .boolean) :: WA) ({ frames := 9, cells := 2, slots := 12, locals := 220 } : Room) D cs (mPc D cs Z h sz [va_rf (some v0), .int x1, .int x2]) (va_Qi post (mB D cs h sz) (fA h sz)) exc h sz 2 12 := by
  refine mx_tmet (fun sz => va_Qi post (mB D cs h sz) (fA h sz)) (by decide) hlT (by simp [lg_sl, mx_rf_cat, cat_i, cat_l]) ?_
  intro p e s m args below meth c C hR ls hl
  have hl : lv_has ls 3 [(0, va_rf (some v0)), (1, .int x1), (2, .int x2)] := hl
  obtain ⟨⟨hx, hb, hr, hml, hown, hW, hlocks, hnm, hK, hZ⟩, hno, -⟩ := id C
  have hown : s.vm.findClass "NetJoins" = some m.cls := hown
  have hA : ∀ q, s.heap.size ≤ q → fA h s.heap.size q := fun _ h => Or.inr h
  unfold wp_NJ_rank at hw
  refine lv_iload_n hx hb d_NJ_rank_0 rfl (lv_at hl 1 rfl) ?_
  refine mx_tcallS (As := [.int x1]) (rest := []) hx hb hml hown hW hK hZ hlocks hno hR hA ok_NJ_needName kw_732 (mt_NJ_needName l hlT D cs Z _ hw) rfl rfl ⟨Nat.le_of_ble_eq_true rfl, Nat.le_of_ble_eq_true rfl⟩ rfl hl.1 rfl (Nat.le_of_ble_eq_true rfl) d_NJ_rank_1 ⟨Nat.le_of_ble_eq_true rfl, Nat.le_of_ble_eq_true rfl⟩ ⟨by decide, by decide⟩ (fun h2 H locs hw hR => ?_)
  refine W.widen (k := 1) (n := 6) (by decide) (by decide) ?_
  try dsimp only at hw
  refine lv_iload_n hx hb d_NJ_rank_4 rfl (lv_at hl 2 rfl) ?_
  refine lv_bipush (v := (-9)) hx hb d_NJ_rank_5 (by decide) ?_
  refine lv_icmp_lt (tgt := 16) hx hb d_NJ_rank_7 (by decide) (fun c3 => ?_) (fun c3 => ?_)
  · have hw := hw.1 c3
    exact mx_throw (k := 3) (ic := 114) (ik := 110) (is := 208) (n4 := 2) (tx := "no rank") hx hb hlT hown hW hK hZ hlocks hno (hl.1.trans hml.symm) hR t_at3 (by decide) (by decide +kernel) kw_627 kw_20 (by decide) d_NJ_rank_16 d_NJ_rank_19 (Or.inl ⟨d_NJ_rank_20, rfl⟩) d_NJ_rank_22 d_NJ_rank_25 (by decide) (Nat.le_of_ble_eq_true rfl) (by decide) (by decide) (by decide) (by decide) hw
  · have hw := hw.2 c3
    refine lv_iload_n hx hb d_NJ_rank_10 rfl (lv_at hl 2 rfl) ?_
    refine lv_bipush (v := 9) hx hb d_NJ_rank_11 (by decide) ?_
    refine lv_icmp_le (tgt := 26) hx hb d_NJ_rank_13 (by decide) (fun c4 => ?_) (fun c4 => ?_)
    · have hw := hw.1 c4
      refine mx_aload_n (r := some v0) hx hb d_NJ_rank_26 rfl (lv_at hl 0 rfl) ?_
      obtain ⟨t5, hw⟩ := hw
      refine mx_get (ci := 0) (C := "NetJoins") (T := F_NJ) (N := 18) hx hb hW hown hK.1 hR (a := v0) rfl t5 rfl i_NJ 8 2 (by decide) rfl kw_128 (fun _ h9 => h9) d_NJ_rank_27 ?_
      refine lv_iload_n hx hb d_NJ_rank_30 rfl (lv_at hl 1 rfl) ?_
      obtain ⟨a6, ea6, t7, t7i, hw⟩ := hw
      refine mx_iald hx hb hK.1 hR (a := a6) ea6 t7 t7i d_NJ_rank_31 ?_
      refine lv_iload_n hx hb d_NJ_rank_32 rfl (lv_at hl 2 rfl) ?_
      refine lv_icmp_ne (tgt := 38) hx hb d_NJ_rank_33 (by decide) (fun c8 => ?_) (fun c8 => ?_)
      · have hw := hw.1 c8
        refine mx_aload_n (r := some v0) hx hb d_NJ_rank_38 rfl (lv_at hl 0 rfl) ?_
        obtain ⟨t9, hw⟩ := hw
        refine mx_get (ci := 0) (C := "NetJoins") (T := F_NJ) (N := 18) hx hb hW hown hK.1 hR (a := v0) rfl t9 rfl i_NJ 8 2 (by decide) rfl kw_128 (fun _ h9 => h9) d_NJ_rank_39 ?_
        refine lv_iload_n hx hb d_NJ_rank_42 rfl (lv_at hl 1 rfl) ?_
        refine lv_iload_n hx hb d_NJ_rank_43 rfl (lv_at hl 2 rfl) ?_
        obtain ⟨a10, ea10, t11, t11i, hw⟩ := hw
        refine mx_iast hx hb hK.1 hR (a := a10) ea10 t11 t11i d_NJ_rank_44 (fun H locs hR => ?_)
        obtain ⟨h12, eh12⟩ : ∃ z, z = sA h2 a10 x1.toNatClampNeg x2 := ⟨_, rfl⟩
        rw [← eh12] at hR
        have hw := hw h12 eh12
        refine mx_aload_n (r := some v0) hx hb d_NJ_rank_45 rfl (lv_at hl 0 rfl) ?_
        refine lv_iconst (v := 0) hx hb d_NJ_rank_46 (by decide) ?_
        obtain ⟨t13, hw⟩ := hw
        obtain ⟨z14, hw⟩ := hw
        refine mx_put (ci := 0) (C := "NetJoins") (T := F_NJ) (N := 18) (v := .int (0 : Int32)) (h' := sI h12 17 v0 (0 : Int32)) hx hb hW hown hK.1 hR (a := v0) rfl t13 rfl i_NJ t_NJ t_NJ_ok n_NJ 17 0 (by decide) rfl kw_137 (fun _ h9 => h9) rfl (mx_z_n z14).1 (mx_z_n z14).2 d_NJ_rank_47 rfl (toE_sI (ci := 0) (k := 17) t13 rfl) (fun H locs hR => ?_)
        obtain ⟨h15, eh15⟩ : ∃ z, z = sI h12 17 v0 (0 : Int32) := ⟨_, rfl⟩
        rw [← eh15] at hR
        have hw := hw h15 eh15
        refine lv_iconst (v := 1) hx hb d_NJ_rank_50 (by decide) ?_
        refine W.widen (k := 2) (n := 12) (by decide) (by decide) ?_
        exact t_ret (mx_zret hx hb hr hlocks hR (Or.inr rfl) hw d_NJ_rank_51)
      · have hw := hw.2 c8
        refine lv_iconst (v := 0) hx hb d_NJ_rank_36 (by decide) ?_
        refine W.widen (k := 2) (n := 12) (by decide) (by decide) ?_
        exact t_ret (mx_zret hx hb hr hlocks hR (Or.inl rfl) hw d_NJ_rank_37)
    · have hw := hw.2 c4
      exact mx_throw (k := 3) (ic := 114) (ik := 110) (is := 208) (n4 := 2) (tx := "no rank") hx hb hlT hown hW hK hZ hlocks hno (hl.1.trans hml.symm) hR t_at3 (by decide) (by decide +kernel) kw_627 kw_20 (by decide) d_NJ_rank_16 d_NJ_rank_19 (Or.inl ⟨d_NJ_rank_20, rfl⟩) d_NJ_rank_22 d_NJ_rank_25 (by decide) (Nat.le_of_ble_eq_true rfl) (by decide) (by decide) (by decide) (by decide) hw
set_option maxHeartbeats 4000000 in
set_option maxRecDepth 100000 in
theorem mt_NJ_name (l : Launch) (hlT : l.stackTraces = false) (D : va_G) (cs : CS) (Z : Nat → Nat) (sz : Nat) {post : Int32 → HS → Prop} {exc : Nat → HS → Prop} {h : HS} {v0 : Nat} {x1 : Int32} (hw : wp_NJ_name Z post exc h v0 x1) : TMet l y_NJ_name (Cond.code y_NJ_name c_NJ_name 3 (some .int) :: WA) ({ frames := 8, cells := 1, slots := 6, locals := 200 } : Room) D cs (mPc D cs Z h sz [va_rf (some v0), .int x1]) (va_Qi post (mB D cs h sz) (fA h sz)) exc h sz 1 6 := by
  refine mx_tmet (fun sz => va_Qi post (mB D cs h sz) (fA h sz)) (by decide) hlT (by simp [lg_sl, mx_rf_cat, cat_i, cat_l]) ?_
  intro p e s m args below meth c C hR ls hl
  have hl : lv_has ls 3 [(0, va_rf (some v0)), (1, .int x1)] := hl
  obtain ⟨⟨hx, hb, hr, hml, hown, hW, hlocks, hnm, hK, hZ⟩, hno, -⟩ := id C
  have hown : s.vm.findClass "NetJoins" = some m.cls := hown
  have hA : ∀ q, s.heap.size ≤ q → fA h s.heap.size q := fun _ h => Or.inr h
  unfold wp_NJ_name at hw
  refine lv_iload_n hx hb d_NJ_name_0 rfl (lv_at hl 1 rfl) ?_
  refine lv_if_lt (tgt := 15) hx hb d_NJ_name_1 (by decide) (fun c1 => ?_) (fun c1 => ?_)
  · have hw := hw.1 c1
    exact mx_throw (k := 1) (ic := 221) (ik := 217) (is := 252) (n4 := 2) (tx := "no such net") hx hb hlT hown hW hK hZ hlocks hno (hl.1.trans hml.symm) hR t_at1 (by decide) (by decide +kernel) kw_428 kw_12 (by decide) d_NJ_name_15 d_NJ_name_18 (Or.inl ⟨d_NJ_name_19, rfl⟩) d_NJ_name_21 d_NJ_name_24 (by decide) (Nat.le_of_ble_eq_true rfl) (by decide) (by decide) (by decide) (by decide) hw
  · have hw := hw.2 c1
    refine lv_iload_n hx hb d_NJ_name_4 rfl (lv_at hl 1 rfl) ?_
    refine mx_aload_n (r := some v0) hx hb d_NJ_name_5 rfl (lv_at hl 0 rfl) ?_
    obtain ⟨t2, hw⟩ := hw
    refine mx_get (ci := 0) (C := "NetJoins") (T := F_NJ) (N := 18) hx hb hW hown hK.1 hR (a := v0) rfl t2 rfl i_NJ 11 2 (by decide) rfl kw_131 (fun _ h9 => h9) d_NJ_name_6 ?_
    obtain ⟨a3, ea3, t4, hw⟩ := hw
    refine mx_get (ci := 3) (C := "NetJoins$NetTable") (T := F_Tab) (N := 7) hx hb hW hown hK.1 hR (a := a3) ea3 t4 rfl i_Tab 5 0 (by decide) rfl kw_102 (fun _ h9 => h9) d_NJ_name_9 ?_
    refine lv_icmp_lt (tgt := 25) hx hb d_NJ_name_12 (by decide) (fun c5 => ?_) (fun c5 => ?_)
    · have hw := hw.1 c5
      refine mx_aload_n (r := some v0) hx hb d_NJ_name_25 rfl (lv_at hl 0 rfl) ?_
      obtain ⟨t8, hw⟩ := hw
      refine mx_callv (va_runV (b := v0) (As := []) (rest := []) ⟨hx, hb, hml, hown, hW⟩ (mt_NJ_listNames l D cs Z _ hw) (mx_cwV hW ok_NJ_listNames kw_187 rfl rfl ⟨Nat.le_of_ble_eq_true rfl, Nat.le_of_ble_eq_true rfl⟩) (mx_preV hK hZ hA hR (ci := 0) rfl t8) rfl rfl hl.1 rfl (lv_room (Nat.le_of_ble_eq_true rfl)) d_NJ_name_26 ⟨Nat.le_of_ble_eq_true rfl, Nat.le_of_ble_eq_true rfl⟩) hR hA (fun h7 H locs hw hR => ?_)
      try dsimp only at hw
      refine mx_aload_n (r := some v0) hx hb d_NJ_name_29 rfl (lv_at hl 0 rfl) ?_
      refine lv_iload_n hx hb d_NJ_name_30 rfl (lv_at hl 1 rfl) ?_
      obtain ⟨t11, hw⟩ := hw
      refine mx_calli (va_runV (b := v0) (As := [.int x1]) (rest := []) ⟨hx, hb, hml, hown, hW⟩ (mt_NJ_bestName l D cs Z _ hw) (mx_cwV hW ok_NJ_bestName kw_240 rfl rfl ⟨Nat.le_of_ble_eq_true rfl, Nat.le_of_ble_eq_true rfl⟩) (mx_preV hK hZ hA hR (ci := 0) rfl t11) rfl rfl hl.1 rfl (lv_room (Nat.le_of_ble_eq_true rfl)) d_NJ_name_31 ⟨Nat.le_of_ble_eq_true rfl, Nat.le_of_ble_eq_true rfl⟩) hR hA (fun r9 h10 H locs hw hR => ?_)
      try dsimp only at hw
      refine lv_istore_n (i := 2) (lv' := [(2, .int r9), (0, va_rf (some v0)), (1, .int x1)]) hx hb d_NJ_name_34 rfl hl (by decide) rfl (fun ls hl => ?_)
      refine lv_iload_n hx hb d_NJ_name_35 rfl (lv_at hl 0 rfl) ?_
      refine lv_iconst (v := (-1)) hx hb d_NJ_name_36 (by decide) ?_
      refine lv_icmp_eq (tgt := 44) hx hb d_NJ_name_37 (by decide) (fun c12 => ?_) (fun c12 => ?_)
      · have hw := hw.1 c12
        refine lv_iconst (v := (-1)) hx hb d_NJ_name_44 (by decide) ?_
        refine mx_aload_n (r := some v0) hx hb d_NJ_name_45 rfl (lv_at hl 1 rfl) ?_
        obtain ⟨t13, hw⟩ := hw
        refine mx_get (ci := 0) (C := "NetJoins") (T := F_NJ) (N := 18) hx hb hW hown hK.1 hR (a := v0) rfl t13 rfl i_NJ 11 2 (by decide) rfl kw_131 (fun _ h9 => h9) d_NJ_name_46 ?_
        refine lv_iload_n hx hb d_NJ_name_49 rfl (lv_at hl 2 rfl) ?_
        obtain ⟨a16, ea16, t17, hw⟩ := hw
        refine W.eq (g2 := F0 m 50 ls [.int x1, va_rf (some a16), .int (-1 : Int32)]) (by rw [← ea16] <;> rfl) ?_
        refine mx_calli (va_runV (b := a16) (As := [.int x1]) (rest := [.int (-1 : Int32)]) ⟨hx, hb, hml, hown, hW⟩ (mt_Tab_leastPin l D cs Z _ hw) (mx_cwV hW ok_Tab_leastPin kw_1106 rfl rfl ⟨Nat.le_of_ble_eq_true rfl, Nat.le_of_ble_eq_true rfl⟩) (mx_preV hK hZ hA hR (ci := 3) rfl t17) rfl rfl hl.1 rfl (lv_room (Nat.le_of_ble_eq_true rfl)) d_NJ_name_50 ⟨Nat.le_of_ble_eq_true rfl, Nat.le_of_ble_eq_true rfl⟩) hR hA (fun r14 h15 H locs hw hR => ?_)
        try dsimp only at hw
        refine lv_isub hx hb d_NJ_name_53 ?_
        refine W.widen (k := 1) (n := 6) (by decide) (by decide) ?_
        exact t_ret (mx_iret hx hb hr hlocks hR hw d_NJ_name_54)
      · have hw := hw.2 c12
        refine lv_iload_n hx hb d_NJ_name_40 rfl (lv_at hl 0 rfl) ?_
        refine lv_goto (tgt := 54) hx hb d_NJ_name_41 (by decide) ?_
        refine W.widen (k := 1) (n := 6) (by decide) (by decide) ?_
        exact t_ret (mx_iret hx hb hr hlocks hR hw d_NJ_name_54)
    · have hw := hw.2 c5
      exact mx_throw (k := 1) (ic := 221) (ik := 217) (is := 252) (n4 := 2) (tx := "no such net") hx hb hlT hown hW hK hZ hlocks hno (hl.1.trans hml.symm) hR t_at1 (by decide) (by decide +kernel) kw_428 kw_12 (by decide) d_NJ_name_15 d_NJ_name_18 (Or.inl ⟨d_NJ_name_19, rfl⟩) d_NJ_name_21 d_NJ_name_24 (by decide) (Nat.le_of_ble_eq_true rfl) (by decide) (by decide) (by decide) (by decide) hw
set_option maxHeartbeats 4000000 in
set_option maxRecDepth 100000 in
theorem mt_NJ_drop (l : Launch) (hlT : l.stackTraces = false) (D : va_G) (cs : CS) (Z : Nat → Nat) (sz : Nat) {post : Int32 → HS → Prop} {exc : Nat → HS → Prop} {h : HS} {v0 : Nat} {x1 : Int32} (hw : wp_NJ_drop Z post exc h v0 x1) : TMet l y_NJ_drop (Cond.code y_NJ_drop c_NJ_drop 2 (some .int) :: WA) ({ frames := 9, cells := 1, slots := 6, locals := 340 } : Room) D cs (mPc D cs Z h sz [va_rf (some v0), .int x1]) (va_Qi post (mB D cs h sz) (fA h sz)) exc h sz 1 6 := by
  refine mx_tmet (fun sz => va_Qi post (mB D cs h sz) (fA h sz)) (by decide) hlT (by simp [lg_sl, mx_rf_cat, cat_i, cat_l]) ?_
  intro p e s m args below meth c C hR ls hl
  have hl : lv_has ls 2 [(0, va_rf (some v0)), (1, .int x1)] := hl
  obtain ⟨⟨hx, hb, hr, hml, hown, hW, hlocks, hnm, hK, hZ⟩, hno, -⟩ := id C
  have hown : s.vm.findClass "NetJoins" = some m.cls := hown
  have hA : ∀ q, s.heap.size ≤ q → fA h s.heap.size q := fun _ h => Or.inr h
  unfold wp_NJ_drop at hw
  refine lv_iload_n hx hb d_NJ_drop_0 rfl (lv_at hl 1 rfl) ?_
  refine lv_if_lt (tgt := 32) hx hb d_NJ_drop_1 (by decide) (fun c1 => ?_) (fun c1 => ?_)
  · have hw := hw.1 c1
    exact mx_throw (k := 1) (ic := 221) (ik := 217) (is := 219) (n4 := 2) (tx := "no such wire") hx hb hlT hown hW hK hZ hlocks hno (hl.1.trans hml.symm) hR t_at1 (by decide) (by decide +kernel) kw_428 kw_12 (by decide) d_NJ_drop_32 d_NJ_drop_35 (Or.inl ⟨d_NJ_drop_36, rfl⟩) d_NJ_drop_38 d_NJ_drop_41 (by decide) (Nat.le_of_ble_eq_true rfl) (by decide) (by decide) (by decide) (by decide) hw
  · have hw := hw.2 c1
    refine lv_iload_n hx hb d_NJ_drop_4 rfl (lv_at hl 1 rfl) ?_
    refine mx_aload_n (r := some v0) hx hb d_NJ_drop_5 rfl (lv_at hl 0 rfl) ?_
    obtain ⟨t2, hw⟩ := hw
    refine mx_get (ci := 0) (C := "NetJoins") (T := F_NJ) (N := 18) hx hb hW hown hK.1 hR (a := v0) rfl t2 rfl i_NJ 1 2 (by decide) rfl kw_121 (fun _ h9 => h9) d_NJ_drop_6 ?_
    obtain ⟨a5, ea5, t6, hw⟩ := hw
    refine W.eq (g2 := F0 m 9 ls [va_rf (some a5), .int x1]) (by rw [← ea5] <;> rfl) ?_
    refine mx_calli (va_runV (b := a5) (As := []) (rest := [.int x1]) ⟨hx, hb, hml, hown, hW⟩ (mt_AL_size l D cs Z _ hw) (mx_cwV hW ok_AL_size kw_192 rfl rfl ⟨Nat.le_of_ble_eq_true rfl, Nat.le_of_ble_eq_true rfl⟩) (mx_preV hK hZ hA hR (ci := 9) rfl t6) rfl rfl hl.1 rfl (lv_room (Nat.le_of_ble_eq_true rfl)) d_NJ_drop_9 ⟨Nat.le_of_ble_eq_true rfl, Nat.le_of_ble_eq_true rfl⟩) hR hA (fun r3 h4 H locs hw hR => ?_)
    try dsimp only at hw
    refine lv_icmp_ge (tgt := 32) hx hb d_NJ_drop_12 (by decide) (fun c7 => ?_) (fun c7 => ?_)
    · have hw := hw.1 c7
      exact mx_throw (k := 1) (ic := 221) (ik := 217) (is := 219) (n4 := 2) (tx := "no such wire") hx hb hlT hown hW hK hZ hlocks hno (hl.1.trans hml.symm) hR t_at1 (by decide) (by decide +kernel) kw_428 kw_12 (by decide) d_NJ_drop_32 d_NJ_drop_35 (Or.inl ⟨d_NJ_drop_36, rfl⟩) d_NJ_drop_38 d_NJ_drop_41 (by decide) (Nat.le_of_ble_eq_true rfl) (by decide) (by decide) (by decide) (by decide) hw
    · have hw := hw.2 c7
      refine mx_aload_n (r := some v0) hx hb d_NJ_drop_15 rfl (lv_at hl 0 rfl) ?_
      obtain ⟨t8, hw⟩ := hw
      refine mx_get (ci := 0) (C := "NetJoins") (T := F_NJ) (N := 18) hx hb hW hown hK.1 hR (a := v0) rfl t8 rfl i_NJ 1 2 (by decide) rfl kw_121 (fun _ h9 => h9) d_NJ_drop_16 ?_
      refine lv_iload_n hx hb d_NJ_drop_19 rfl (lv_at hl 1 rfl) ?_
      obtain ⟨a11, ea11, t12, hw⟩ := hw
      refine W.eq (g2 := F0 m 20 ls [.int x1, va_rf (some a11)]) (by rw [← ea11] <;> rfl) ?_
      refine mx_callr (va_runV (b := a11) (As := [.int x1]) (rest := []) ⟨hx, hb, hml, hown, hW⟩ (mt_AL_get l D cs Z _ hw) (mx_cwV hW ok_AL_get kw_196 rfl rfl ⟨Nat.le_of_ble_eq_true rfl, Nat.le_of_ble_eq_true rfl⟩) (mx_preV hK hZ hA hR (ci := 9) rfl t12) rfl rfl hl.1 rfl (lv_room (Nat.le_of_ble_eq_true rfl)) d_NJ_drop_20 ⟨Nat.le_of_ble_eq_true rfl, Nat.le_of_ble_eq_true rfl⟩) hR hA (fun r9 h10 H locs hw hR => ?_)
      try dsimp only at hw
      obtain ⟨t13, hw⟩ := hw
      refine mx_cast (ci := 7) (C := "NetJoins$Wire") (T := F_Wire) (N := 7) hx hb hW hown hK.1 hR rfl kw_259 t13 d_NJ_drop_23 ?_
      obtain ⟨a14, ea14, t15, hw⟩ := hw
      refine mx_get (ci := 7) (C := "NetJoins$Wire") (T := F_Wire) (N := 7) hx hb hW hown hK.1 hR (a := a14) ea14 t15 rfl i_Wire 6 0 (by decide) rfl kw_658 (fun _ h9 => h9) d_NJ_drop_26 ?_
      refine lv_if_eq (tgt := 42) hx hb d_NJ_drop_29 (by decide) (fun c16 => ?_) (fun c16 => ?_)
      · have hw := hw.1 c16
        refine mx_aload_n (r := some v0) hx hb d_NJ_drop_42 rfl (lv_at hl 0 rfl) ?_
        obtain ⟨t17, hw⟩ := hw
        refine mx_get (ci := 0) (C := "NetJoins") (T := F_NJ) (N := 18) hx hb hW hown hK.1 hR (a := v0) rfl t17 rfl i_NJ 1 2 (by decide) rfl kw_121 (fun _ h9 => h9) d_NJ_drop_43 ?_
        refine lv_iload_n hx hb d_NJ_drop_46 rfl (lv_at hl 1 rfl) ?_
        obtain ⟨a20, ea20, t21, hw⟩ := hw
        refine W.eq (g2 := F0 m 47 ls [.int x1, va_rf (some a20)]) (by rw [← ea20] <;> rfl) ?_
        refine mx_callr (va_runV (b := a20) (As := [.int x1]) (rest := []) ⟨hx, hb, hml, hown, hW⟩ (mt_AL_get l D cs Z _ hw) (mx_cwV hW ok_AL_get kw_196 rfl rfl ⟨Nat.le_of_ble_eq_true rfl, Nat.le_of_ble_eq_true rfl⟩) (mx_preV hK hZ hA hR (ci := 9) rfl t21) rfl rfl hl.1 rfl (lv_room (Nat.le_of_ble_eq_true rfl)) d_NJ_drop_47 ⟨Nat.le_of_ble_eq_true rfl, Nat.le_of_ble_eq_true rfl⟩) hR hA (fun r18 h19 H locs hw hR => ?_)
        try dsimp only at hw
        obtain ⟨t22, hw⟩ := hw
        refine mx_cast (ci := 7) (C := "NetJoins$Wire") (T := F_Wire) (N := 7) hx hb hW hown hK.1 hR rfl kw_259 t22 d_NJ_drop_50 ?_
        refine lv_iconst (v := 1) hx hb d_NJ_drop_53 (by decide) ?_
        obtain ⟨a23, ea23, t24, hw⟩ := hw
        obtain ⟨z25, hw⟩ := hw
        refine mx_put (ci := 7) (C := "NetJoins$Wire") (T := F_Wire) (N := 7) (v := .int (1 : Int32)) (h' := sI h19 706 a23 (1 : Int32)) hx hb hW hown hK.1 hR (a := a23) ea23 t24 rfl i_Wire t_Wire t_Wire_ok n_Wire 6 0 (by decide) rfl kw_658 (fun _ h9 => h9) rfl (mx_z_n z25).1 (mx_z_n z25).2 d_NJ_drop_54 rfl (toE_sI (ci := 7) (k := 6) t24 rfl) (fun H locs hR => ?_)
        obtain ⟨h26, eh26⟩ : ∃ z, z = sI h19 706 a23 (1 : Int32) := ⟨_, rfl⟩
        rw [← eh26] at hR
        have hw := hw h26 eh26
        refine mx_aload_n (r := some v0) hx hb d_NJ_drop_57 rfl (lv_at hl 0 rfl) ?_
        obtain ⟨t29, hw⟩ := hw
        refine mx_callv (va_runV (b := v0) (As := []) (rest := []) ⟨hx, hb, hml, hown, hW⟩ (mt_NJ_joinAnew l D cs Z _ hw) (mx_cwV hW ok_NJ_joinAnew kw_298 rfl rfl ⟨Nat.le_of_ble_eq_true rfl, Nat.le_of_ble_eq_true rfl⟩) (mx_preV hK hZ hA hR (ci := 0) rfl t29) rfl rfl hl.1 rfl (lv_room (Nat.le_of_ble_eq_true rfl)) d_NJ_drop_58 ⟨Nat.le_of_ble_eq_true rfl, Nat.le_of_ble_eq_true rfl⟩) hR hA (fun h28 H locs hw hR => ?_)
        try dsimp only at hw
        refine mx_aload_n (r := some v0) hx hb d_NJ_drop_61 rfl (lv_at hl 0 rfl) ?_
        obtain ⟨t32, hw⟩ := hw
        refine mx_callv (va_runV (b := v0) (As := []) (rest := []) ⟨hx, hb, hml, hown, hW⟩ (mt_NJ_keepUp l D cs Z _ hw) (mx_cwV hW ok_NJ_keepUp kw_606 rfl rfl ⟨Nat.le_of_ble_eq_true rfl, Nat.le_of_ble_eq_true rfl⟩) (mx_preV hK hZ hA hR (ci := 0) rfl t32) rfl rfl hl.1 rfl (lv_room (Nat.le_of_ble_eq_true rfl)) d_NJ_drop_62 ⟨Nat.le_of_ble_eq_true rfl, Nat.le_of_ble_eq_true rfl⟩) hR hA (fun h31 H locs hw hR => ?_)
        try dsimp only at hw
        refine mx_aload_n (r := some v0) hx hb d_NJ_drop_65 rfl (lv_at hl 0 rfl) ?_
        obtain ⟨t33, hw⟩ := hw
        refine mx_get (ci := 0) (C := "NetJoins") (T := F_NJ) (N := 18) hx hb hW hown hK.1 hR (a := v0) rfl t33 rfl i_NJ 11 2 (by decide) rfl kw_131 (fun _ h9 => h9) d_NJ_drop_66 ?_
        obtain ⟨a36, ea36, t37, hw⟩ := hw
        refine W.eq (g2 := F0 m 69 ls [va_rf (some a36)]) (by rw [← ea36] <;> rfl) ?_
        refine mx_calli (va_runV (b := a36) (As := []) (rest := []) ⟨hx, hb, hml, hown, hW⟩ (mt_Tab_changedCount l D cs Z _ hw) (mx_cwV hW ok_Tab_changedCount kw_1118 rfl rfl ⟨Nat.le_of_ble_eq_true rfl, Nat.le_of_ble_eq_true rfl⟩) (mx_preV hK hZ hA hR (ci := 3) rfl t37) rfl rfl hl.1 rfl (lv_room (Nat.le_of_ble_eq_true rfl)) d_NJ_drop_69 ⟨Nat.le_of_ble_eq_true rfl, Nat.le_of_ble_eq_true rfl⟩) hR hA (fun r34 h35 H locs hw hR => ?_)
        try dsimp only at hw
        refine W.widen (k := 1) (n := 6) (by decide) (by decide) ?_
        exact t_ret (mx_iret hx hb hr hlocks hR hw d_NJ_drop_72)
      · have hw := hw.2 c16
        exact mx_throw (k := 1) (ic := 221) (ik := 217) (is := 219) (n4 := 2) (tx := "no such wire") hx hb hlT hown hW hK hZ hlocks hno (hl.1.trans hml.symm) hR t_at1 (by decide) (by decide +kernel) kw_428 kw_12 (by decide) d_NJ_drop_32 d_NJ_drop_35 (Or.inl ⟨d_NJ_drop_36, rfl⟩) d_NJ_drop_38 d_NJ_drop_41 (by decide) (Nat.le_of_ble_eq_true rfl) (by decide) (by decide) (by decide) (by decide) hw
set_option maxHeartbeats 4000000 in
set_option maxRecDepth 100000 in
theorem mt_NJ_open (l : Launch) (hlT : l.stackTraces = false) (D : va_G) (cs : CS) (Z : Nat → Nat) (sz : Nat) {post : Int32 → HS → Prop} {exc : Nat → HS → Prop} {h : HS} {v0 : Nat} {x1 : Int32} (hw : wp_NJ_open Z post exc h v0 x1) : TMet l y_NJ_open (Cond.code y_NJ_open c_NJ_open 3 (some .boolean) :: WA) ({ frames := 9, cells := 1, slots := 6, locals := 221 } : Room) D cs (mPc D cs Z h sz [va_rf (some v0), .int x1]) (va_Qi post (mB D cs h sz) (fA h sz)) exc h sz 1 6 := by
  refine mx_tmet (fun sz => va_Qi post (mB D cs h sz) (fA h sz)) (by decide) hlT (by simp [lg_sl, mx_rf_cat, cat_i, cat_l]) ?_
  intro p e s m args below meth c C hR ls hl
  have hl : lv_has ls 3 [(0, va_rf (some v0)), (1, .int x1)] := hl
  obtain ⟨⟨hx, hb, hr, hml, hown, hW, hlocks, hnm, hK, hZ⟩, hno, -⟩ := id C
  have hown : s.vm.findClass "NetJoins" = some m.cls := hown
  have hA : ∀ q, s.heap.size ≤ q → fA h s.heap.size q := fun _ h => Or.inr h
  unfold wp_NJ_open at hw
  refine mx_aload_n (r := some v0) hx hb d_NJ_open_0 rfl (lv_at hl 0 rfl) ?_
  refine lv_iload_n hx hb d_NJ_open_1 rfl (lv_at hl 1 rfl) ?_
  obtain ⟨t3, hw⟩ := hw
  refine mx_tcallV (As := [.int x1]) (rest := []) (b := v0) (ci := 0) hx hb hml hown hW hK hZ hlocks hno hR hA ok_NJ_needPin kw_1084 (mt_NJ_needPin l hlT D cs Z _ hw) rfl rfl ⟨Nat.le_of_ble_eq_true rfl, Nat.le_of_ble_eq_true rfl⟩ rfl t3 rfl hl.1 rfl (Nat.le_of_ble_eq_true rfl) d_NJ_open_2 ⟨Nat.le_of_ble_eq_true rfl, Nat.le_of_ble_eq_true rfl⟩ ⟨by decide, by decide⟩ (fun h2 H locs hw hR => ?_)
  refine W.widen (k := 1) (n := 6) (by decide) (by decide) ?_
  try dsimp only at hw
  refine mx_aload_n (r := some v0) hx hb d_NJ_open_5 rfl (lv_at hl 0 rfl) ?_
  obtain ⟨t4, hw⟩ := hw
  refine mx_get (ci := 0) (C := "NetJoins") (T := F_NJ) (N := 18) hx hb hW hown hK.1 hR (a := v0) rfl t4 rfl i_NJ 5 2 (by decide) rfl kw_125 (fun _ h9 => h9) d_NJ_open_6 ?_
  refine lv_iload_n hx hb d_NJ_open_9 rfl (lv_at hl 1 rfl) ?_
  obtain ⟨a7, ea7, t8, hw⟩ := hw
  refine W.eq (g2 := F0 m 10 ls [.int x1, va_rf (some a7)]) (by rw [← ea7] <;> rfl) ?_
  refine mx_callr (va_runV (b := a7) (As := [.int x1]) (rest := []) ⟨hx, hb, hml, hown, hW⟩ (mt_AL_get l D cs Z _ hw) (mx_cwV hW ok_AL_get kw_196 rfl rfl ⟨Nat.le_of_ble_eq_true rfl, Nat.le_of_ble_eq_true rfl⟩) (mx_preV hK hZ hA hR (ci := 9) rfl t8) rfl rfl hl.1 rfl (lv_room (Nat.le_of_ble_eq_true rfl)) d_NJ_open_10 ⟨Nat.le_of_ble_eq_true rfl, Nat.le_of_ble_eq_true rfl⟩) hR hA (fun r5 h6 H locs hw hR => ?_)
  try dsimp only at hw
  obtain ⟨t9, hw⟩ := hw
  refine mx_cast (ci := 6) (C := "NetJoins$Spot") (T := F_Spot) (N := 6) hx hb hW hown hK.1 hR rfl kw_210 t9 d_NJ_open_13 ?_
  refine mx_astore_n (i := 2) (r := r5) (lv' := [(2, va_rf r5), (0, va_rf (some v0)), (1, .int x1)]) hx hb d_NJ_open_16 rfl hl (by decide) rfl (fun ls hl => ?_)
  refine mx_aload_n (r := r5) hx hb d_NJ_open_17 rfl (lv_at hl 0 rfl) ?_
  refine mx_aload_n (r := r5) hx hb d_NJ_open_18 rfl (lv_at hl 0 rfl) ?_
  obtain ⟨a10, ea10, t11, hw⟩ := hw
  refine mx_get (ci := 6) (C := "NetJoins$Spot") (T := F_Spot) (N := 6) hx hb hW hown hK.1 hR (a := a10) ea10 t11 rfl i_Spot 5 0 (by decide) rfl kw_711 (fun _ h9 => h9) d_NJ_open_19 ?_
  refine lv_if_ne (tgt := 29) hx hb d_NJ_open_22 (by decide) (fun c12 => ?_) (fun c12 => ?_)
  · have hw := hw.1 c12
    refine lv_iconst (v := 0) hx hb d_NJ_open_29 (by decide) ?_
    obtain ⟨a13, ea13, t14, hw⟩ := hw
    obtain ⟨z15, hw⟩ := hw
    refine mx_put (ci := 6) (C := "NetJoins$Spot") (T := F_Spot) (N := 6) (v := .int (0 : Int32)) (h' := sI h6 605 a13 (0 : Int32)) hx hb hW hown hK.1 hR (a := a13) ea13 t14 rfl i_Spot t_Spot t_Spot_ok n_Spot 5 0 (by decide) rfl kw_711 (fun _ h9 => h9) rfl (mx_z_n z15).1 (mx_z_n z15).2 d_NJ_open_30 rfl (toE_sI (ci := 6) (k := 5) t14 rfl) (fun H locs hR => ?_)
    obtain ⟨h16, eh16⟩ : ∃ z, z = sI h6 605 a13 (0 : Int32) := ⟨_, rfl⟩
    rw [← eh16] at hR
    have hw := hw h16 eh16
    refine mx_aload_n (r := some v0) hx hb d_NJ_open_33 rfl (lv_at hl 1 rfl) ?_
    refine lv_iconst (v := 0) hx hb d_NJ_open_34 (by decide) ?_
    obtain ⟨t17, hw⟩ := hw
    obtain ⟨z18, hw⟩ := hw
    refine mx_put (ci := 0) (C := "NetJoins") (T := F_NJ) (N := 18) (v := .int (0 : Int32)) (h' := sI h16 17 v0 (0 : Int32)) hx hb hW hown hK.1 hR (a := v0) rfl t17 rfl i_NJ t_NJ t_NJ_ok n_NJ 17 0 (by decide) rfl kw_137 (fun _ h9 => h9) rfl (mx_z_n z18).1 (mx_z_n z18).2 d_NJ_open_35 rfl (toE_sI (ci := 0) (k := 17) t17 rfl) (fun H locs hR => ?_)
    obtain ⟨h19, eh19⟩ : ∃ z, z = sI h16 17 v0 (0 : Int32) := ⟨_, rfl⟩
    rw [← eh19] at hR
    have hw := hw h19 eh19
    refine mx_aload_n (r := r5) hx hb d_NJ_open_38 rfl (lv_at hl 0 rfl) ?_
    obtain ⟨a20, ea20, t21, hw⟩ := hw
    refine mx_get (ci := 6) (C := "NetJoins$Spot") (T := F_Spot) (N := 6) hx hb hW hown hK.1 hR (a := a20) ea20 t21 rfl i_Spot 5 0 (by decide) rfl kw_711 (fun _ h9 => h9) d_NJ_open_39 ?_
    exact t_ret (mx_zret hx hb hr hlocks hR hw.1 hw.2 d_NJ_open_42)
  · have hw := hw.2 c12
    refine lv_iconst (v := 1) hx hb d_NJ_open_25 (by decide) ?_
    refine lv_goto (tgt := 30) hx hb d_NJ_open_26 (by decide) ?_
    obtain ⟨a22, ea22, t23, hw⟩ := hw
    obtain ⟨z24, hw⟩ := hw
    refine mx_put (ci := 6) (C := "NetJoins$Spot") (T := F_Spot) (N := 6) (v := .int (1 : Int32)) (h' := sI h6 605 a22 (1 : Int32)) hx hb hW hown hK.1 hR (a := a22) ea22 t23 rfl i_Spot t_Spot t_Spot_ok n_Spot 5 0 (by decide) rfl kw_711 (fun _ h9 => h9) rfl (mx_z_n z24).1 (mx_z_n z24).2 d_NJ_open_30 rfl (toE_sI (ci := 6) (k := 5) t23 rfl) (fun H locs hR => ?_)
    obtain ⟨h25, eh25⟩ : ∃ z, z = sI h6 605 a22 (1 : Int32) := ⟨_, rfl⟩
    rw [← eh25] at hR
    have hw := hw h25 eh25
    refine mx_aload_n (r := some v0) hx hb d_NJ_open_33 rfl (lv_at hl 1 rfl) ?_
    refine lv_iconst (v := 0) hx hb d_NJ_open_34 (by decide) ?_
    obtain ⟨t26, hw⟩ := hw
    obtain ⟨z27, hw⟩ := hw
    refine mx_put (ci := 0) (C := "NetJoins") (T := F_NJ) (N := 18) (v := .int (0 : Int32)) (h' := sI h25 17 v0 (0 : Int32)) hx hb hW hown hK.1 hR (a := v0) rfl t26 rfl i_NJ t_NJ t_NJ_ok n_NJ 17 0 (by decide) rfl kw_137 (fun _ h9 => h9) rfl (mx_z_n z27).1 (mx_z_n z27).2 d_NJ_open_35 rfl (toE_sI (ci := 0) (k := 17) t26 rfl) (fun H locs hR => ?_)
    obtain ⟨h28, eh28⟩ : ∃ z, z = sI h25 17 v0 (0 : Int32) := ⟨_, rfl⟩
    rw [← eh28] at hR
    have hw := hw h28 eh28
    refine mx_aload_n (r := r5) hx hb d_NJ_open_38 rfl (lv_at hl 0 rfl) ?_
    obtain ⟨a29, ea29, t30, hw⟩ := hw
    refine mx_get (ci := 6) (C := "NetJoins$Spot") (T := F_Spot) (N := 6) hx hb hW hown hK.1 hR (a := a29) ea29 t30 rfl i_Spot 5 0 (by decide) rfl kw_711 (fun _ h9 => h9) d_NJ_open_39 ?_
    exact t_ret (mx_zret hx hb hr hlocks hR hw.1 hw.2 d_NJ_open_42)
