set_option maxHeartbeats 4000000 in
set_option maxRecDepth 100000 in
theorem mt_Law_sheet (l : Launch) (hlT : l.stackTraces = false) (D : va_G) (cs : CS) (Z : Nat → Nat) (sz : Nat) {post : Int32 → HS → Prop} {h : HS} {x0 : Option Nat} {x1 : Int32} {x2 : Int32} {x3 : Option Nat} (hw : wp_Law_sheet Z post h x0 x1 x2 x3) : Met l y_Law_sheet (Cond.codeWith y_Law_sheet c_Law_sheet 5 (some .int) [(0, 10, 13, 13), (0, 10, 17, 15)] :: WA) ({ frames := 11, cells := 6, slots := 1123, locals := 455 } : Room) (mPc D cs Z h sz [va_rf x0, .int x1, .int x2, va_rf x3]) (va_Qi post (mB D cs h sz) (fA h sz)) 6 1123 (fA h sz) := by
  refine mx_metW (fun sz => va_Qi post (mB D cs h sz) (fA h sz)) (by decide) (by simp [lg_sl, mx_rf_cat, cat_i, cat_l]) ?_
  intro p e s m args below meth c C hhh hR ls hl
  have hl : lv_has ls 5 [(0, va_rf x0), (1, .int x1), (2, .int x2), (3, va_rf x3)] := by simpa [lv_args, mx_rf_cat, cat_i, cat_l] using hl
  obtain ⟨hx, hb, hr, hml, hown, hW, hlocks, hnm, hK, hZ⟩ := id C
  have hown : s.vm.findClass "NetJoinsLaw" = some m.cls := hown
  have hA : ∀ q, s.heap.size ≤ q → fA h s.heap.size q := fun _ h => Or.inr h
  unfold wp_Law_sheet at hw
  refine mx_aload_n (r := x3) hx hb d_Law_sheet_0 rfl (lv_at hl 3 rfl) ?_
  refine lv_iconst (v := 0) hx hb d_Law_sheet_1 (by decide) ?_
  refine mx_aload_n (r := x0) hx hb d_Law_sheet_2 rfl (lv_at hl 0 rfl) ?_
  refine lv_iload_n hx hb d_Law_sheet_3 rfl (lv_at hl 1 rfl) ?_
  refine lv_iload_n hx hb d_Law_sheet_4 rfl (lv_at hl 2 rfl) ?_
  obtain ⟨a3, ea3, t4, hw⟩ := hw
  refine W.eq (g2 := F0 m 5 ls [.int x2, .int x1, va_rf (some a3), .int (0 : Int32), va_rf x3]) (by rw [← ea3] <;> rfl) ?_
  refine mx_tcatch (As := [.int x1, .int x2]) (rest := [.int (0 : Int32), va_rf x3]) (b := a3) (ci := 0) hx hb hml hown hW hK hZ hhh hR hA ok_NJ_sheet kw_420 (mt_NJ_sheet l hlT D cs Z _ hw) rfl rfl ⟨Nat.le_of_ble_eq_true rfl, Nat.le_of_ble_eq_true rfl⟩ rfl t4 rfl hl.1 rfl (by simp [mx_rf_cat, cat_i, cat_l]) d_Law_sheet_5 ⟨Nat.le_of_ble_eq_true rfl, Nat.le_of_ble_eq_true rfl⟩ (fun k9 u H locs q9 hw hR => ?_) (fun r1 h2 H locs hw hR => ?_)
  · rcases hw with ⟨rfl, hw⟩ | ⟨rfl, hw⟩
    · refine ⟨13, ⟨⟨by decide, by decide, by decide⟩, Or.inl ⟨kw_418, by decide, rfl⟩⟩, ?_⟩
      refine W.widen (k := 6) (n := 1123) (by decide) (by decide) ?_
      refine mx_astore (i := 4) (r := some q9) (lv' := [(4, va_rf (some q9)), (0, va_rf x0), (1, .int x1), (2, .int x2), (3, va_rf x3)]) hx hb d_Law_sheet_13 hl (by decide) (by simp [mx_rf_cat]) (fun ls hl => ?_)
      refine lv_iconst (v := 1) hx hb d_Law_sheet_15 (by decide) ?_
      exact mx_iret hx hb hr hlocks hR hw d_Law_sheet_16
    · refine ⟨17, ⟨⟨by decide, by decide, by decide⟩, Or.inr ⟨1, kw_418, by decide, ⟨⟨by decide, by decide, by decide⟩, Or.inl ⟨kw_419, by decide, rfl⟩⟩⟩⟩, ?_⟩
      refine W.widen (k := 6) (n := 1123) (by decide) (by decide) ?_
      refine mx_astore (i := 4) (r := some q9) (lv' := [(4, va_rf (some q9)), (0, va_rf x0), (1, .int x1), (2, .int x2), (3, va_rf x3)]) hx hb d_Law_sheet_17 hl (by decide) (by simp [mx_rf_cat]) (fun ls hl => ?_)
      refine lv_iconst (v := 2) hx hb d_Law_sheet_19 (by decide) ?_
      exact mx_iret hx hb hr hlocks hR hw d_Law_sheet_20
  refine W.widen (k := 6) (n := 1123) (by decide) (by decide) ?_
  try dsimp only at hw
  refine lv_i2l hx hb d_Law_sheet_8 rfl ?_
  obtain ⟨a5, ea5, t6, t6i, hw⟩ := hw
  refine mx_last hx hb hK.1 hR (a := a5) ea5 t6 t6i d_Law_sheet_9 (fun H locs hR => ?_)
  obtain ⟨h7, eh7⟩ : ∃ z, z = sL h2 a5 (0 : Int32).toNatClampNeg (r1.toInt64) := ⟨_, rfl⟩
  rw [← eh7] at hR
  have hw := hw h7 eh7
  refine lv_goto (tgt := 21) hx hb d_Law_sheet_10 (by decide) ?_
  refine lv_iconst (v := 0) hx hb d_Law_sheet_21 (by decide) ?_
  exact mx_iret hx hb hr hlocks hR hw d_Law_sheet_22
set_option maxHeartbeats 4000000 in
set_option maxRecDepth 100000 in
theorem mt_Law_wire (l : Launch) (hlT : l.stackTraces = false) (D : va_G) (cs : CS) (Z : Nat → Nat) (sz : Nat) {post : Int32 → HS → Prop} {h : HS} {x0 : Option Nat} {x1 : Int32} {x2 : Int64} {x4 : Int64} {x6 : Int64} {x8 : Int64} {x10 : Option Nat} (hw : wp_Law_wire Z post h x0 x1 x2 x4 x6 x8 x10) : Met l y_Law_wire (Cond.codeWith y_Law_wire c_Law_wire 12 (some .int) [(0, 17, 20, 13), (0, 17, 24, 15), (0, 17, 28, 21)] :: WA) ({ frames := 11, cells := 6, slots := 231, locals := 462 } : Room) (mPc D cs Z h sz [va_rf x0, .int x1, .long x2, .long x4, .long x6, .long x8, va_rf x10]) (va_Qi post (mB D cs h sz) (fA h sz)) 6 231 (fA h sz) := by
  refine mx_metW (fun sz => va_Qi post (mB D cs h sz) (fA h sz)) (by decide) (by simp [lg_sl, mx_rf_cat, cat_i, cat_l]) ?_
  intro p e s m args below meth c C hhh hR ls hl
  have hl : lv_has ls 12 [(0, va_rf x0), (1, .int x1), (2, .long x2), (4, .long x4), (6, .long x6), (8, .long x8), (10, va_rf x10)] := by simpa [lv_args, mx_rf_cat, cat_i, cat_l] using hl
  obtain ⟨hx, hb, hr, hml, hown, hW, hlocks, hnm, hK, hZ⟩ := id C
  have hown : s.vm.findClass "NetJoinsLaw" = some m.cls := hown
  have hA : ∀ q, s.heap.size ≤ q → fA h s.heap.size q := fun _ h => Or.inr h
  unfold wp_Law_wire at hw
  refine mx_aload (r := x10) hx hb d_Law_wire_0 (lv_at hl 6 rfl) ?_
  refine lv_iconst (v := 0) hx hb d_Law_wire_2 (by decide) ?_
  refine mx_aload_n (r := x0) hx hb d_Law_wire_3 rfl (lv_at hl 0 rfl) ?_
  refine lv_iload_n hx hb d_Law_wire_4 rfl (lv_at hl 1 rfl) ?_
  refine lv_lload_n hx hb d_Law_wire_5 rfl (lv_at hl 2 rfl) ?_
  refine lv_lload hx hb d_Law_wire_6 (lv_at hl 3 rfl) ?_
  refine lv_lload hx hb d_Law_wire_8 (lv_at hl 4 rfl) ?_
  refine lv_lload hx hb d_Law_wire_10 (lv_at hl 5 rfl) ?_
  obtain ⟨a3, ea3, t4, hw⟩ := hw
  refine W.eq (g2 := F0 m 12 ls [.long x8, .long x6, .long x4, .long x2, .int x1, va_rf (some a3), .int (0 : Int32), va_rf x10]) (by rw [← ea3] <;> rfl) ?_
  refine mx_tcatch (As := [.int x1, .long x2, .long x4, .long x6, .long x8]) (rest := [.int (0 : Int32), va_rf x10]) (b := a3) (ci := 0) hx hb hml hown hW hK hZ hhh hR hA ok_NJ_wire kw_618 (mt_NJ_wire l hlT D cs Z _ hw) rfl rfl ⟨Nat.le_of_ble_eq_true rfl, Nat.le_of_ble_eq_true rfl⟩ rfl t4 rfl hl.1 rfl (by simp [mx_rf_cat, cat_i, cat_l]) d_Law_wire_12 ⟨Nat.le_of_ble_eq_true rfl, Nat.le_of_ble_eq_true rfl⟩ (fun k9 u H locs q9 hw hR => ?_) (fun r1 h2 H locs hw hR => ?_)
  · rcases hw with ⟨rfl, hw⟩ | ⟨rfl, hw⟩ | ⟨rfl, hw⟩
    · refine ⟨20, ⟨⟨by decide, by decide, by decide⟩, Or.inl ⟨kw_418, by decide, rfl⟩⟩, ?_⟩
      refine W.widen (k := 6) (n := 231) (by decide) (by decide) ?_
      refine mx_astore (i := 11) (r := some q9) (lv' := [(11, va_rf (some q9)), (0, va_rf x0), (1, .int x1), (2, .long x2), (4, .long x4), (6, .long x6), (8, .long x8), (10, va_rf x10)]) hx hb d_Law_wire_20 hl (by decide) (by simp [mx_rf_cat]) (fun ls hl => ?_)
      refine lv_iconst (v := 1) hx hb d_Law_wire_22 (by decide) ?_
      exact mx_iret hx hb hr hlocks hR hw d_Law_wire_23
    · refine ⟨24, ⟨⟨by decide, by decide, by decide⟩, Or.inr ⟨1, kw_418, by decide, ⟨⟨by decide, by decide, by decide⟩, Or.inl ⟨kw_419, by decide, rfl⟩⟩⟩⟩, ?_⟩
      refine W.widen (k := 6) (n := 231) (by decide) (by decide) ?_
      refine mx_astore (i := 11) (r := some q9) (lv' := [(11, va_rf (some q9)), (0, va_rf x0), (1, .int x1), (2, .long x2), (4, .long x4), (6, .long x6), (8, .long x8), (10, va_rf x10)]) hx hb d_Law_wire_24 hl (by decide) (by simp [mx_rf_cat]) (fun ls hl => ?_)
      refine lv_iconst (v := 2) hx hb d_Law_wire_26 (by decide) ?_
      exact mx_iret hx hb hr hlocks hR hw d_Law_wire_27
    · refine ⟨28, ⟨⟨by decide, by decide, by decide⟩, Or.inr ⟨1, kw_418, by decide, ⟨⟨by decide, by decide, by decide⟩, Or.inr ⟨2, kw_419, by decide, ⟨⟨by decide, by decide, by decide⟩, Or.inl ⟨kw_617, by decide, rfl⟩⟩⟩⟩⟩⟩, ?_⟩
      refine W.widen (k := 6) (n := 231) (by decide) (by decide) ?_
      refine mx_astore (i := 11) (r := some q9) (lv' := [(11, va_rf (some q9)), (0, va_rf x0), (1, .int x1), (2, .long x2), (4, .long x4), (6, .long x6), (8, .long x8), (10, va_rf x10)]) hx hb d_Law_wire_28 hl (by decide) (by simp [mx_rf_cat]) (fun ls hl => ?_)
      refine lv_iconst (v := 3) hx hb d_Law_wire_30 (by decide) ?_
      exact mx_iret hx hb hr hlocks hR hw d_Law_wire_31
  refine W.widen (k := 6) (n := 231) (by decide) (by decide) ?_
  try dsimp only at hw
  refine lv_i2l hx hb d_Law_wire_15 rfl ?_
  obtain ⟨a5, ea5, t6, t6i, hw⟩ := hw
  refine mx_last hx hb hK.1 hR (a := a5) ea5 t6 t6i d_Law_wire_16 (fun H locs hR => ?_)
  obtain ⟨h7, eh7⟩ : ∃ z, z = sL h2 a5 (0 : Int32).toNatClampNeg (r1.toInt64) := ⟨_, rfl⟩
  rw [← eh7] at hR
  have hw := hw h7 eh7
  refine lv_goto (tgt := 32) hx hb d_Law_wire_17 (by decide) ?_
  refine lv_iconst (v := 0) hx hb d_Law_wire_32 (by decide) ?_
  exact mx_iret hx hb hr hlocks hR hw d_Law_wire_33
set_option maxHeartbeats 4000000 in
set_option maxRecDepth 100000 in
theorem mt_Law_junction (l : Launch) (hlT : l.stackTraces = false) (D : va_G) (cs : CS) (Z : Nat → Nat) (sz : Nat) {post : Int32 → HS → Prop} {h : HS} {x0 : Option Nat} {x1 : Int32} {x2 : Int64} {x4 : Int64} {x6 : Option Nat} (hw : wp_Law_junction Z post h x0 x1 x2 x4 x6) : Met l y_Law_junction (Cond.codeWith y_Law_junction c_Law_junction 8 (some .int) [(0, 20, 23, 13), (0, 20, 27, 15), (0, 20, 31, 21)] :: WA) ({ frames := 11, cells := 5, slots := 224, locals := 457 } : Room) (mPc D cs Z h sz [va_rf x0, .int x1, .long x2, .long x4, va_rf x6]) (va_Qi post (mB D cs h sz) (fA h sz)) 5 224 (fA h sz) := by
  refine mx_metW (fun sz => va_Qi post (mB D cs h sz) (fA h sz)) (by decide) (by simp [lg_sl, mx_rf_cat, cat_i, cat_l]) ?_
  intro p e s m args below meth c C hhh hR ls hl
  have hl : lv_has ls 8 [(0, va_rf x0), (1, .int x1), (2, .long x2), (4, .long x4), (6, va_rf x6)] := by simpa [lv_args, mx_rf_cat, cat_i, cat_l] using hl
  obtain ⟨hx, hb, hr, hml, hown, hW, hlocks, hnm, hK, hZ⟩ := id C
  have hown : s.vm.findClass "NetJoinsLaw" = some m.cls := hown
  have hA : ∀ q, s.heap.size ≤ q → fA h s.heap.size q := fun _ h => Or.inr h
  unfold wp_Law_junction at hw
  refine mx_aload (r := x6) hx hb d_Law_junction_0 (lv_at hl 4 rfl) ?_
  refine lv_iconst (v := 0) hx hb d_Law_junction_2 (by decide) ?_
  refine mx_aload_n (r := x0) hx hb d_Law_junction_3 rfl (lv_at hl 0 rfl) ?_
  refine lv_iload_n hx hb d_Law_junction_4 rfl (lv_at hl 1 rfl) ?_
  refine lv_lload_n hx hb d_Law_junction_5 rfl (lv_at hl 2 rfl) ?_
  refine lv_lload hx hb d_Law_junction_6 (lv_at hl 3 rfl) ?_
  obtain ⟨a3, ea3, t4, hw⟩ := hw
  refine W.eq (g2 := F0 m 8 ls [.long x4, .long x2, .int x1, va_rf (some a3), .int (0 : Int32), va_rf x6]) (by rw [← ea3] <;> rfl) ?_
  refine mx_tcatch (As := [.int x1, .long x2, .long x4]) (rest := [.int (0 : Int32), va_rf x6]) (b := a3) (ci := 0) hx hb hml hown hW hK hZ hhh hR hA ok_NJ_junction kw_689 (mt_NJ_junction l hlT D cs Z _ hw) rfl rfl ⟨Nat.le_of_ble_eq_true rfl, Nat.le_of_ble_eq_true rfl⟩ rfl t4 rfl hl.1 rfl (by simp [mx_rf_cat, cat_i, cat_l]) d_Law_junction_8 ⟨Nat.le_of_ble_eq_true rfl, Nat.le_of_ble_eq_true rfl⟩ (fun k9 u H locs q9 hw hR => ?_) (fun r1 h2 H locs hw hR => ?_)
  · rcases hw with ⟨rfl, hw⟩ | ⟨rfl, hw⟩ | ⟨rfl, hw⟩
    · refine ⟨23, ⟨⟨by decide, by decide, by decide⟩, Or.inl ⟨kw_418, by decide, rfl⟩⟩, ?_⟩
      refine W.widen (k := 5) (n := 224) (by decide) (by decide) ?_
      refine mx_astore (i := 7) (r := some q9) (lv' := [(7, va_rf (some q9)), (0, va_rf x0), (1, .int x1), (2, .long x2), (4, .long x4), (6, va_rf x6)]) hx hb d_Law_junction_23 hl (by decide) (by simp [mx_rf_cat]) (fun ls hl => ?_)
      refine lv_iconst (v := 1) hx hb d_Law_junction_25 (by decide) ?_
      exact mx_iret hx hb hr hlocks hR hw d_Law_junction_26
    · refine ⟨27, ⟨⟨by decide, by decide, by decide⟩, Or.inr ⟨1, kw_418, by decide, ⟨⟨by decide, by decide, by decide⟩, Or.inl ⟨kw_419, by decide, rfl⟩⟩⟩⟩, ?_⟩
      refine W.widen (k := 5) (n := 224) (by decide) (by decide) ?_
      refine mx_astore (i := 7) (r := some q9) (lv' := [(7, va_rf (some q9)), (0, va_rf x0), (1, .int x1), (2, .long x2), (4, .long x4), (6, va_rf x6)]) hx hb d_Law_junction_27 hl (by decide) (by simp [mx_rf_cat]) (fun ls hl => ?_)
      refine lv_iconst (v := 2) hx hb d_Law_junction_29 (by decide) ?_
      exact mx_iret hx hb hr hlocks hR hw d_Law_junction_30
    · refine ⟨31, ⟨⟨by decide, by decide, by decide⟩, Or.inr ⟨1, kw_418, by decide, ⟨⟨by decide, by decide, by decide⟩, Or.inr ⟨2, kw_419, by decide, ⟨⟨by decide, by decide, by decide⟩, Or.inl ⟨kw_617, by decide, rfl⟩⟩⟩⟩⟩⟩, ?_⟩
      refine W.widen (k := 5) (n := 224) (by decide) (by decide) ?_
      refine mx_astore (i := 7) (r := some q9) (lv' := [(7, va_rf (some q9)), (0, va_rf x0), (1, .int x1), (2, .long x2), (4, .long x4), (6, va_rf x6)]) hx hb d_Law_junction_31 hl (by decide) (by simp [mx_rf_cat]) (fun ls hl => ?_)
      refine lv_iconst (v := 3) hx hb d_Law_junction_33 (by decide) ?_
      exact mx_iret hx hb hr hlocks hR hw d_Law_junction_34
  refine W.widen (k := 5) (n := 224) (by decide) (by decide) ?_
  try dsimp only at hw
  refine lv_if_eq (tgt := 18) hx hb d_Law_junction_11 (by decide) (fun c5 => ?_) (fun c5 => ?_)
  · have hw := hw.1 c5
    refine lv_lconst (v := 0) hx hb d_Law_junction_18 (by decide) ?_
    obtain ⟨a6, ea6, t7, t7i, hw⟩ := hw
    refine mx_last hx hb hK.1 hR (a := a6) ea6 t7 t7i d_Law_junction_19 (fun H locs hR => ?_)
    obtain ⟨h8, eh8⟩ : ∃ z, z = sL h2 a6 (0 : Int32).toNatClampNeg (0 : Int64) := ⟨_, rfl⟩
    rw [← eh8] at hR
    have hw := hw h8 eh8
    refine lv_goto (tgt := 35) hx hb d_Law_junction_20 (by decide) ?_
    refine lv_iconst (v := 0) hx hb d_Law_junction_35 (by decide) ?_
    exact mx_iret hx hb hr hlocks hR hw d_Law_junction_36
  · have hw := hw.2 c5
    refine lv_lconst (v := 1) hx hb d_Law_junction_14 (by decide) ?_
    refine lv_goto (tgt := 19) hx hb d_Law_junction_15 (by decide) ?_
    obtain ⟨a9, ea9, t10, t10i, hw⟩ := hw
    refine mx_last hx hb hK.1 hR (a := a9) ea9 t10 t10i d_Law_junction_19 (fun H locs hR => ?_)
    obtain ⟨h11, eh11⟩ : ∃ z, z = sL h2 a9 (0 : Int32).toNatClampNeg (1 : Int64) := ⟨_, rfl⟩
    rw [← eh11] at hR
    have hw := hw h11 eh11
    refine lv_goto (tgt := 35) hx hb d_Law_junction_20 (by decide) ?_
    refine lv_iconst (v := 0) hx hb d_Law_junction_35 (by decide) ?_
    exact mx_iret hx hb hr hlocks hR hw d_Law_junction_36
set_option maxHeartbeats 4000000 in
set_option maxRecDepth 100000 in
theorem mt_Law_label (l : Launch) (hlT : l.stackTraces = false) (D : va_G) (cs : CS) (Z : Nat → Nat) (sz : Nat) {post : Int32 → HS → Prop} {h : HS} {x0 : Option Nat} {x1 : Int32} {x2 : Int64} {x4 : Int64} {x6 : Int32} {x7 : Option Nat} (hw : wp_Law_label Z post h x0 x1 x2 x4 x6 x7) : Met l y_Law_label (Cond.codeWith y_Law_label c_Law_label 9 (some .int) [(0, 15, 18, 13), (0, 15, 22, 15), (0, 15, 26, 21)] :: WA) ({ frames := 11, cells := 8, slots := 436, locals := 461 } : Room) (mPc D cs Z h sz [va_rf x0, .int x1, .long x2, .long x4, .int x6, va_rf x7]) (va_Qi post (mB D cs h sz) (fA h sz)) 8 436 (fA h sz) := by
  refine mx_metW (fun sz => va_Qi post (mB D cs h sz) (fA h sz)) (by decide) (by simp [lg_sl, mx_rf_cat, cat_i, cat_l]) ?_
  intro p e s m args below meth c C hhh hR ls hl
  have hl : lv_has ls 9 [(0, va_rf x0), (1, .int x1), (2, .long x2), (4, .long x4), (6, .int x6), (7, va_rf x7)] := by simpa [lv_args, mx_rf_cat, cat_i, cat_l] using hl
  obtain ⟨hx, hb, hr, hml, hown, hW, hlocks, hnm, hK, hZ⟩ := id C
  have hown : s.vm.findClass "NetJoinsLaw" = some m.cls := hown
  have hA : ∀ q, s.heap.size ≤ q → fA h s.heap.size q := fun _ h => Or.inr h
  unfold wp_Law_label at hw
  refine mx_aload (r := x7) hx hb d_Law_label_0 (lv_at hl 5 rfl) ?_
  refine lv_iconst (v := 0) hx hb d_Law_label_2 (by decide) ?_
  refine mx_aload_n (r := x0) hx hb d_Law_label_3 rfl (lv_at hl 0 rfl) ?_
  refine lv_iload_n hx hb d_Law_label_4 rfl (lv_at hl 1 rfl) ?_
  refine lv_lload_n hx hb d_Law_label_5 rfl (lv_at hl 2 rfl) ?_
  refine lv_lload hx hb d_Law_label_6 (lv_at hl 3 rfl) ?_
  refine lv_iload hx hb d_Law_label_8 (lv_at hl 4 rfl) ?_
  obtain ⟨a3, ea3, t4, hw⟩ := hw
  refine W.eq (g2 := F0 m 10 ls [.int x6, .long x4, .long x2, .int x1, va_rf (some a3), .int (0 : Int32), va_rf x7]) (by rw [← ea3] <;> rfl) ?_
  refine mx_tcatch (As := [.int x1, .long x2, .long x4, .int x6]) (rest := [.int (0 : Int32), va_rf x7]) (b := a3) (ci := 0) hx hb hml hown hW hK hZ hhh hR hA ok_NJ_label kw_728 (mt_NJ_label l hlT D cs Z _ hw) rfl rfl ⟨Nat.le_of_ble_eq_true rfl, Nat.le_of_ble_eq_true rfl⟩ rfl t4 rfl hl.1 rfl (by simp [mx_rf_cat, cat_i, cat_l]) d_Law_label_10 ⟨Nat.le_of_ble_eq_true rfl, Nat.le_of_ble_eq_true rfl⟩ (fun k9 u H locs q9 hw hR => ?_) (fun r1 h2 H locs hw hR => ?_)
  · rcases hw with ⟨rfl, hw⟩ | ⟨rfl, hw⟩ | ⟨rfl, hw⟩
    · refine ⟨18, ⟨⟨by decide, by decide, by decide⟩, Or.inl ⟨kw_418, by decide, rfl⟩⟩, ?_⟩
      refine W.widen (k := 8) (n := 436) (by decide) (by decide) ?_
      refine mx_astore (i := 8) (r := some q9) (lv' := [(8, va_rf (some q9)), (0, va_rf x0), (1, .int x1), (2, .long x2), (4, .long x4), (6, .int x6), (7, va_rf x7)]) hx hb d_Law_label_18 hl (by decide) (by simp [mx_rf_cat]) (fun ls hl => ?_)
      refine lv_iconst (v := 1) hx hb d_Law_label_20 (by decide) ?_
      exact mx_iret hx hb hr hlocks hR hw d_Law_label_21
    · refine ⟨22, ⟨⟨by decide, by decide, by decide⟩, Or.inr ⟨1, kw_418, by decide, ⟨⟨by decide, by decide, by decide⟩, Or.inl ⟨kw_419, by decide, rfl⟩⟩⟩⟩, ?_⟩
      refine W.widen (k := 8) (n := 436) (by decide) (by decide) ?_
      refine mx_astore (i := 8) (r := some q9) (lv' := [(8, va_rf (some q9)), (0, va_rf x0), (1, .int x1), (2, .long x2), (4, .long x4), (6, .int x6), (7, va_rf x7)]) hx hb d_Law_label_22 hl (by decide) (by simp [mx_rf_cat]) (fun ls hl => ?_)
      refine lv_iconst (v := 2) hx hb d_Law_label_24 (by decide) ?_
      exact mx_iret hx hb hr hlocks hR hw d_Law_label_25
    · refine ⟨26, ⟨⟨by decide, by decide, by decide⟩, Or.inr ⟨1, kw_418, by decide, ⟨⟨by decide, by decide, by decide⟩, Or.inr ⟨2, kw_419, by decide, ⟨⟨by decide, by decide, by decide⟩, Or.inl ⟨kw_617, by decide, rfl⟩⟩⟩⟩⟩⟩, ?_⟩
      refine W.widen (k := 8) (n := 436) (by decide) (by decide) ?_
      refine mx_astore (i := 8) (r := some q9) (lv' := [(8, va_rf (some q9)), (0, va_rf x0), (1, .int x1), (2, .long x2), (4, .long x4), (6, .int x6), (7, va_rf x7)]) hx hb d_Law_label_26 hl (by decide) (by simp [mx_rf_cat]) (fun ls hl => ?_)
      refine lv_iconst (v := 3) hx hb d_Law_label_28 (by decide) ?_
      exact mx_iret hx hb hr hlocks hR hw d_Law_label_29
  refine W.widen (k := 8) (n := 436) (by decide) (by decide) ?_
  try dsimp only at hw
  refine lv_i2l hx hb d_Law_label_13 rfl ?_
  obtain ⟨a5, ea5, t6, t6i, hw⟩ := hw
  refine mx_last hx hb hK.1 hR (a := a5) ea5 t6 t6i d_Law_label_14 (fun H locs hR => ?_)
  obtain ⟨h7, eh7⟩ : ∃ z, z = sL h2 a5 (0 : Int32).toNatClampNeg (r1.toInt64) := ⟨_, rfl⟩
  rw [← eh7] at hR
  have hw := hw h7 eh7
  refine lv_goto (tgt := 30) hx hb d_Law_label_15 (by decide) ?_
  refine lv_iconst (v := 0) hx hb d_Law_label_30 (by decide) ?_
  exact mx_iret hx hb hr hlocks hR hw d_Law_label_31
set_option maxHeartbeats 4000000 in
set_option maxRecDepth 100000 in
theorem mt_Law_pin (l : Launch) (hlT : l.stackTraces = false) (D : va_G) (cs : CS) (Z : Nat → Nat) (sz : Nat) {post : Int32 → HS → Prop} {h : HS} {x0 : Option Nat} {x1 : Int32} {x2 : Int64} {x4 : Int64} {x6 : Int32} {x7 : Option Nat} (hw : wp_Law_pin Z post h x0 x1 x2 x4 x6 x7) : Met l y_Law_pin (Cond.codeWith y_Law_pin c_Law_pin 9 (some .int) [(0, 15, 18, 13), (0, 15, 22, 15), (0, 15, 26, 21)] :: WA) ({ frames := 11, cells := 5, slots := 224, locals := 459 } : Room) (mPc D cs Z h sz [va_rf x0, .int x1, .long x2, .long x4, .int x6, va_rf x7]) (va_Qi post (mB D cs h sz) (fA h sz)) 5 224 (fA h sz) := by
  refine mx_metW (fun sz => va_Qi post (mB D cs h sz) (fA h sz)) (by decide) (by simp [lg_sl, mx_rf_cat, cat_i, cat_l]) ?_
  intro p e s m args below meth c C hhh hR ls hl
  have hl : lv_has ls 9 [(0, va_rf x0), (1, .int x1), (2, .long x2), (4, .long x4), (6, .int x6), (7, va_rf x7)] := by simpa [lv_args, mx_rf_cat, cat_i, cat_l] using hl
  obtain ⟨hx, hb, hr, hml, hown, hW, hlocks, hnm, hK, hZ⟩ := id C
  have hown : s.vm.findClass "NetJoinsLaw" = some m.cls := hown
  have hA : ∀ q, s.heap.size ≤ q → fA h s.heap.size q := fun _ h => Or.inr h
  unfold wp_Law_pin at hw
  refine mx_aload (r := x7) hx hb d_Law_pin_0 (lv_at hl 5 rfl) ?_
  refine lv_iconst (v := 0) hx hb d_Law_pin_2 (by decide) ?_
  refine mx_aload_n (r := x0) hx hb d_Law_pin_3 rfl (lv_at hl 0 rfl) ?_
  refine lv_iload_n hx hb d_Law_pin_4 rfl (lv_at hl 1 rfl) ?_
  refine lv_lload_n hx hb d_Law_pin_5 rfl (lv_at hl 2 rfl) ?_
  refine lv_lload hx hb d_Law_pin_6 (lv_at hl 3 rfl) ?_
  refine lv_iload hx hb d_Law_pin_8 (lv_at hl 4 rfl) ?_
  obtain ⟨a3, ea3, t4, hw⟩ := hw
  refine W.eq (g2 := F0 m 10 ls [.int x6, .long x4, .long x2, .int x1, va_rf (some a3), .int (0 : Int32), va_rf x7]) (by rw [← ea3] <;> rfl) ?_
  refine mx_tcatch (As := [.int x1, .long x2, .long x4, .int x6]) (rest := [.int (0 : Int32), va_rf x7]) (b := a3) (ci := 0) hx hb hml hown hW hK hZ hhh hR hA ok_NJ_pin kw_989 (mt_NJ_pin l hlT D cs Z _ hw) rfl rfl ⟨Nat.le_of_ble_eq_true rfl, Nat.le_of_ble_eq_true rfl⟩ rfl t4 rfl hl.1 rfl (by simp [mx_rf_cat, cat_i, cat_l]) d_Law_pin_10 ⟨Nat.le_of_ble_eq_true rfl, Nat.le_of_ble_eq_true rfl⟩ (fun k9 u H locs q9 hw hR => ?_) (fun r1 h2 H locs hw hR => ?_)
  · rcases hw with ⟨rfl, hw⟩ | ⟨rfl, hw⟩ | ⟨rfl, hw⟩
    · refine ⟨18, ⟨⟨by decide, by decide, by decide⟩, Or.inl ⟨kw_418, by decide, rfl⟩⟩, ?_⟩
      refine W.widen (k := 5) (n := 224) (by decide) (by decide) ?_
      refine mx_astore (i := 8) (r := some q9) (lv' := [(8, va_rf (some q9)), (0, va_rf x0), (1, .int x1), (2, .long x2), (4, .long x4), (6, .int x6), (7, va_rf x7)]) hx hb d_Law_pin_18 hl (by decide) (by simp [mx_rf_cat]) (fun ls hl => ?_)
      refine lv_iconst (v := 1) hx hb d_Law_pin_20 (by decide) ?_
      exact mx_iret hx hb hr hlocks hR hw d_Law_pin_21
    · refine ⟨22, ⟨⟨by decide, by decide, by decide⟩, Or.inr ⟨1, kw_418, by decide, ⟨⟨by decide, by decide, by decide⟩, Or.inl ⟨kw_419, by decide, rfl⟩⟩⟩⟩, ?_⟩
      refine W.widen (k := 5) (n := 224) (by decide) (by decide) ?_
      refine mx_astore (i := 8) (r := some q9) (lv' := [(8, va_rf (some q9)), (0, va_rf x0), (1, .int x1), (2, .long x2), (4, .long x4), (6, .int x6), (7, va_rf x7)]) hx hb d_Law_pin_22 hl (by decide) (by simp [mx_rf_cat]) (fun ls hl => ?_)
      refine lv_iconst (v := 2) hx hb d_Law_pin_24 (by decide) ?_
      exact mx_iret hx hb hr hlocks hR hw d_Law_pin_25
    · refine ⟨26, ⟨⟨by decide, by decide, by decide⟩, Or.inr ⟨1, kw_418, by decide, ⟨⟨by decide, by decide, by decide⟩, Or.inr ⟨2, kw_419, by decide, ⟨⟨by decide, by decide, by decide⟩, Or.inl ⟨kw_617, by decide, rfl⟩⟩⟩⟩⟩⟩, ?_⟩
      refine W.widen (k := 5) (n := 224) (by decide) (by decide) ?_
      refine mx_astore (i := 8) (r := some q9) (lv' := [(8, va_rf (some q9)), (0, va_rf x0), (1, .int x1), (2, .long x2), (4, .long x4), (6, .int x6), (7, va_rf x7)]) hx hb d_Law_pin_26 hl (by decide) (by simp [mx_rf_cat]) (fun ls hl => ?_)
      refine lv_iconst (v := 3) hx hb d_Law_pin_28 (by decide) ?_
      exact mx_iret hx hb hr hlocks hR hw d_Law_pin_29
  refine W.widen (k := 5) (n := 224) (by decide) (by decide) ?_
  try dsimp only at hw
  refine lv_i2l hx hb d_Law_pin_13 rfl ?_
  obtain ⟨a5, ea5, t6, t6i, hw⟩ := hw
  refine mx_last hx hb hK.1 hR (a := a5) ea5 t6 t6i d_Law_pin_14 (fun H locs hR => ?_)
  obtain ⟨h7, eh7⟩ : ∃ z, z = sL h2 a5 (0 : Int32).toNatClampNeg (r1.toInt64) := ⟨_, rfl⟩
  rw [← eh7] at hR
  have hw := hw h7 eh7
  refine lv_goto (tgt := 30) hx hb d_Law_pin_15 (by decide) ?_
  refine lv_iconst (v := 0) hx hb d_Law_pin_30 (by decide) ?_
  exact mx_iret hx hb hr hlocks hR hw d_Law_pin_31
set_option maxHeartbeats 4000000 in
set_option maxRecDepth 100000 in
theorem mt_Law_port (l : Launch) (hlT : l.stackTraces = false) (D : va_G) (cs : CS) (Z : Nat → Nat) (sz : Nat) {post : Int32 → HS → Prop} {h : HS} {x0 : Option Nat} {x1 : Int32} {x2 : Int32} {x3 : Int32} {x4 : Option Nat} (hw : wp_Law_port Z post h x0 x1 x2 x3 x4) : Met l y_Law_port (Cond.codeWith y_Law_port c_Law_port 6 (some .int) [(0, 19, 22, 13), (0, 19, 26, 15), (0, 19, 30, 21)] :: WA) ({ frames := 10, cells := 6, slots := 229, locals := 456 } : Room) (mPc D cs Z h sz [va_rf x0, .int x1, .int x2, .int x3, va_rf x4]) (va_Qi post (mB D cs h sz) (fA h sz)) 6 229 (fA h sz) := by
  refine mx_metW (fun sz => va_Qi post (mB D cs h sz) (fA h sz)) (by decide) (by simp [lg_sl, mx_rf_cat, cat_i, cat_l]) ?_
  intro p e s m args below meth c C hhh hR ls hl
  have hl : lv_has ls 6 [(0, va_rf x0), (1, .int x1), (2, .int x2), (3, .int x3), (4, va_rf x4)] := by simpa [lv_args, mx_rf_cat, cat_i, cat_l] using hl
  obtain ⟨hx, hb, hr, hml, hown, hW, hlocks, hnm, hK, hZ⟩ := id C
  have hown : s.vm.findClass "NetJoinsLaw" = some m.cls := hown
  have hA : ∀ q, s.heap.size ≤ q → fA h s.heap.size q := fun _ h => Or.inr h
  unfold wp_Law_port at hw
  refine mx_aload (r := x4) hx hb d_Law_port_0 (lv_at hl 4 rfl) ?_
  refine lv_iconst (v := 0) hx hb d_Law_port_2 (by decide) ?_
  refine mx_aload_n (r := x0) hx hb d_Law_port_3 rfl (lv_at hl 0 rfl) ?_
  refine lv_iload_n hx hb d_Law_port_4 rfl (lv_at hl 1 rfl) ?_
  refine lv_iload_n hx hb d_Law_port_5 rfl (lv_at hl 2 rfl) ?_
  refine lv_iload_n hx hb d_Law_port_6 rfl (lv_at hl 3 rfl) ?_
  obtain ⟨a3, ea3, t4, hw⟩ := hw
  refine W.eq (g2 := F0 m 7 ls [.int x3, .int x2, .int x1, va_rf (some a3), .int (0 : Int32), va_rf x4]) (by rw [← ea3] <;> rfl) ?_
  refine mx_tcatch (As := [.int x1, .int x2, .int x3]) (rest := [.int (0 : Int32), va_rf x4]) (b := a3) (ci := 0) hx hb hml hown hW hK hZ hhh hR hA ok_NJ_port kw_1000 (mt_NJ_port l hlT D cs Z _ hw) rfl rfl ⟨Nat.le_of_ble_eq_true rfl, Nat.le_of_ble_eq_true rfl⟩ rfl t4 rfl hl.1 rfl (by simp [mx_rf_cat, cat_i, cat_l]) d_Law_port_7 ⟨Nat.le_of_ble_eq_true rfl, Nat.le_of_ble_eq_true rfl⟩ (fun k9 u H locs q9 hw hR => ?_) (fun r1 h2 H locs hw hR => ?_)
  · rcases hw with ⟨rfl, hw⟩ | ⟨rfl, hw⟩ | ⟨rfl, hw⟩
    · refine ⟨22, ⟨⟨by decide, by decide, by decide⟩, Or.inl ⟨kw_418, by decide, rfl⟩⟩, ?_⟩
      refine W.widen (k := 6) (n := 229) (by decide) (by decide) ?_
      refine mx_astore (i := 5) (r := some q9) (lv' := [(5, va_rf (some q9)), (0, va_rf x0), (1, .int x1), (2, .int x2), (3, .int x3), (4, va_rf x4)]) hx hb d_Law_port_22 hl (by decide) (by simp [mx_rf_cat]) (fun ls hl => ?_)
      refine lv_iconst (v := 1) hx hb d_Law_port_24 (by decide) ?_
      exact mx_iret hx hb hr hlocks hR hw d_Law_port_25
    · refine ⟨26, ⟨⟨by decide, by decide, by decide⟩, Or.inr ⟨1, kw_418, by decide, ⟨⟨by decide, by decide, by decide⟩, Or.inl ⟨kw_419, by decide, rfl⟩⟩⟩⟩, ?_⟩
      refine W.widen (k := 6) (n := 229) (by decide) (by decide) ?_
      refine mx_astore (i := 5) (r := some q9) (lv' := [(5, va_rf (some q9)), (0, va_rf x0), (1, .int x1), (2, .int x2), (3, .int x3), (4, va_rf x4)]) hx hb d_Law_port_26 hl (by decide) (by simp [mx_rf_cat]) (fun ls hl => ?_)
      refine lv_iconst (v := 2) hx hb d_Law_port_28 (by decide) ?_
      exact mx_iret hx hb hr hlocks hR hw d_Law_port_29
    · refine ⟨30, ⟨⟨by decide, by decide, by decide⟩, Or.inr ⟨1, kw_418, by decide, ⟨⟨by decide, by decide, by decide⟩, Or.inr ⟨2, kw_419, by decide, ⟨⟨by decide, by decide, by decide⟩, Or.inl ⟨kw_617, by decide, rfl⟩⟩⟩⟩⟩⟩, ?_⟩
      refine W.widen (k := 6) (n := 229) (by decide) (by decide) ?_
      refine mx_astore (i := 5) (r := some q9) (lv' := [(5, va_rf (some q9)), (0, va_rf x0), (1, .int x1), (2, .int x2), (3, .int x3), (4, va_rf x4)]) hx hb d_Law_port_30 hl (by decide) (by simp [mx_rf_cat]) (fun ls hl => ?_)
      refine lv_iconst (v := 3) hx hb d_Law_port_32 (by decide) ?_
      exact mx_iret hx hb hr hlocks hR hw d_Law_port_33
  refine W.widen (k := 6) (n := 229) (by decide) (by decide) ?_
  try dsimp only at hw
  refine lv_if_eq (tgt := 17) hx hb d_Law_port_10 (by decide) (fun c5 => ?_) (fun c5 => ?_)
  · have hw := hw.1 c5
    refine lv_lconst (v := 0) hx hb d_Law_port_17 (by decide) ?_
    obtain ⟨a6, ea6, t7, t7i, hw⟩ := hw
    refine mx_last hx hb hK.1 hR (a := a6) ea6 t7 t7i d_Law_port_18 (fun H locs hR => ?_)
    obtain ⟨h8, eh8⟩ : ∃ z, z = sL h2 a6 (0 : Int32).toNatClampNeg (0 : Int64) := ⟨_, rfl⟩
    rw [← eh8] at hR
    have hw := hw h8 eh8
    refine lv_goto (tgt := 34) hx hb d_Law_port_19 (by decide) ?_
    refine lv_iconst (v := 0) hx hb d_Law_port_34 (by decide) ?_
    exact mx_iret hx hb hr hlocks hR hw d_Law_port_35
  · have hw := hw.2 c5
    refine lv_lconst (v := 1) hx hb d_Law_port_13 (by decide) ?_
    refine lv_goto (tgt := 18) hx hb d_Law_port_14 (by decide) ?_
    obtain ⟨a9, ea9, t10, t10i, hw⟩ := hw
    refine mx_last hx hb hK.1 hR (a := a9) ea9 t10 t10i d_Law_port_18 (fun H locs hR => ?_)
    obtain ⟨h11, eh11⟩ : ∃ z, z = sL h2 a9 (0 : Int32).toNatClampNeg (1 : Int64) := ⟨_, rfl⟩
    rw [← eh11] at hR
    have hw := hw h11 eh11
    refine lv_goto (tgt := 34) hx hb d_Law_port_19 (by decide) ?_
    refine lv_iconst (v := 0) hx hb d_Law_port_34 (by decide) ?_
    exact mx_iret hx hb hr hlocks hR hw d_Law_port_35
set_option maxHeartbeats 4000000 in
set_option maxRecDepth 100000 in
theorem mt_Law_bus (l : Launch) (hlT : l.stackTraces = false) (D : va_G) (cs : CS) (Z : Nat → Nat) (sz : Nat) {post : Int32 → HS → Prop} {h : HS} {x0 : Option Nat} {x1 : Int32} {x2 : Int32} {x3 : Int32} {x4 : Int32} {x5 : Option Nat} (hw : wp_Law_bus Z post h x0 x1 x2 x3 x4 x5) : Met l y_Law_bus (Cond.codeWith y_Law_bus c_Law_bus 7 (some .int) [(0, 21, 24, 13), (0, 21, 28, 15), (0, 21, 32, 21)] :: WA) ({ frames := 11, cells := 7, slots := 234, locals := 457 } : Room) (mPc D cs Z h sz [va_rf x0, .int x1, .int x2, .int x3, .int x4, va_rf x5]) (va_Qi post (mB D cs h sz) (fA h sz)) 7 234 (fA h sz) := by
  refine mx_metW (fun sz => va_Qi post (mB D cs h sz) (fA h sz)) (by decide) (by simp [lg_sl, mx_rf_cat, cat_i, cat_l]) ?_
  intro p e s m args below meth c C hhh hR ls hl
  have hl : lv_has ls 7 [(0, va_rf x0), (1, .int x1), (2, .int x2), (3, .int x3), (4, .int x4), (5, va_rf x5)] := by simpa [lv_args, mx_rf_cat, cat_i, cat_l] using hl
  obtain ⟨hx, hb, hr, hml, hown, hW, hlocks, hnm, hK, hZ⟩ := id C
  have hown : s.vm.findClass "NetJoinsLaw" = some m.cls := hown
  have hA : ∀ q, s.heap.size ≤ q → fA h s.heap.size q := fun _ h => Or.inr h
  unfold wp_Law_bus at hw
  refine mx_aload (r := x5) hx hb d_Law_bus_0 (lv_at hl 5 rfl) ?_
  refine lv_iconst (v := 0) hx hb d_Law_bus_2 (by decide) ?_
  refine mx_aload_n (r := x0) hx hb d_Law_bus_3 rfl (lv_at hl 0 rfl) ?_
  refine lv_iload_n hx hb d_Law_bus_4 rfl (lv_at hl 1 rfl) ?_
  refine lv_iload_n hx hb d_Law_bus_5 rfl (lv_at hl 2 rfl) ?_
  refine lv_iload_n hx hb d_Law_bus_6 rfl (lv_at hl 3 rfl) ?_
  refine lv_iload hx hb d_Law_bus_7 (lv_at hl 4 rfl) ?_
  obtain ⟨a3, ea3, t4, hw⟩ := hw
  refine W.eq (g2 := F0 m 9 ls [.int x4, .int x3, .int x2, .int x1, va_rf (some a3), .int (0 : Int32), va_rf x5]) (by rw [← ea3] <;> rfl) ?_
  refine mx_tcatch (As := [.int x1, .int x2, .int x3, .int x4]) (rest := [.int (0 : Int32), va_rf x5]) (b := a3) (ci := 0) hx hb hml hown hW hK hZ hhh hR hA ok_NJ_bus kw_1047 (mt_NJ_bus l hlT D cs Z _ hw) rfl rfl ⟨Nat.le_of_ble_eq_true rfl, Nat.le_of_ble_eq_true rfl⟩ rfl t4 rfl hl.1 rfl (by simp [mx_rf_cat, cat_i, cat_l]) d_Law_bus_9 ⟨Nat.le_of_ble_eq_true rfl, Nat.le_of_ble_eq_true rfl⟩ (fun k9 u H locs q9 hw hR => ?_) (fun r1 h2 H locs hw hR => ?_)
  · rcases hw with ⟨rfl, hw⟩ | ⟨rfl, hw⟩ | ⟨rfl, hw⟩
    · refine ⟨24, ⟨⟨by decide, by decide, by decide⟩, Or.inl ⟨kw_418, by decide, rfl⟩⟩, ?_⟩
      refine W.widen (k := 7) (n := 234) (by decide) (by decide) ?_
      refine mx_astore (i := 6) (r := some q9) (lv' := [(6, va_rf (some q9)), (0, va_rf x0), (1, .int x1), (2, .int x2), (3, .int x3), (4, .int x4), (5, va_rf x5)]) hx hb d_Law_bus_24 hl (by decide) (by simp [mx_rf_cat]) (fun ls hl => ?_)
      refine lv_iconst (v := 1) hx hb d_Law_bus_26 (by decide) ?_
      exact mx_iret hx hb hr hlocks hR hw d_Law_bus_27
    · refine ⟨28, ⟨⟨by decide, by decide, by decide⟩, Or.inr ⟨1, kw_418, by decide, ⟨⟨by decide, by decide, by decide⟩, Or.inl ⟨kw_419, by decide, rfl⟩⟩⟩⟩, ?_⟩
      refine W.widen (k := 7) (n := 234) (by decide) (by decide) ?_
      refine mx_astore (i := 6) (r := some q9) (lv' := [(6, va_rf (some q9)), (0, va_rf x0), (1, .int x1), (2, .int x2), (3, .int x3), (4, .int x4), (5, va_rf x5)]) hx hb d_Law_bus_28 hl (by decide) (by simp [mx_rf_cat]) (fun ls hl => ?_)
      refine lv_iconst (v := 2) hx hb d_Law_bus_30 (by decide) ?_
      exact mx_iret hx hb hr hlocks hR hw d_Law_bus_31
    · refine ⟨32, ⟨⟨by decide, by decide, by decide⟩, Or.inr ⟨1, kw_418, by decide, ⟨⟨by decide, by decide, by decide⟩, Or.inr ⟨2, kw_419, by decide, ⟨⟨by decide, by decide, by decide⟩, Or.inl ⟨kw_617, by decide, rfl⟩⟩⟩⟩⟩⟩, ?_⟩
      refine W.widen (k := 7) (n := 234) (by decide) (by decide) ?_
      refine mx_astore (i := 6) (r := some q9) (lv' := [(6, va_rf (some q9)), (0, va_rf x0), (1, .int x1), (2, .int x2), (3, .int x3), (4, .int x4), (5, va_rf x5)]) hx hb d_Law_bus_32 hl (by decide) (by simp [mx_rf_cat]) (fun ls hl => ?_)
      refine lv_iconst (v := 3) hx hb d_Law_bus_34 (by decide) ?_
      exact mx_iret hx hb hr hlocks hR hw d_Law_bus_35
  refine W.widen (k := 7) (n := 234) (by decide) (by decide) ?_
  try dsimp only at hw
  refine lv_if_eq (tgt := 19) hx hb d_Law_bus_12 (by decide) (fun c5 => ?_) (fun c5 => ?_)
  · have hw := hw.1 c5
    refine lv_lconst (v := 0) hx hb d_Law_bus_19 (by decide) ?_
    obtain ⟨a6, ea6, t7, t7i, hw⟩ := hw
    refine mx_last hx hb hK.1 hR (a := a6) ea6 t7 t7i d_Law_bus_20 (fun H locs hR => ?_)
    obtain ⟨h8, eh8⟩ : ∃ z, z = sL h2 a6 (0 : Int32).toNatClampNeg (0 : Int64) := ⟨_, rfl⟩
    rw [← eh8] at hR
    have hw := hw h8 eh8
    refine lv_goto (tgt := 36) hx hb d_Law_bus_21 (by decide) ?_
    refine lv_iconst (v := 0) hx hb d_Law_bus_36 (by decide) ?_
    exact mx_iret hx hb hr hlocks hR hw d_Law_bus_37
  · have hw := hw.2 c5
    refine lv_lconst (v := 1) hx hb d_Law_bus_15 (by decide) ?_
    refine lv_goto (tgt := 20) hx hb d_Law_bus_16 (by decide) ?_
    obtain ⟨a9, ea9, t10, t10i, hw⟩ := hw
    refine mx_last hx hb hK.1 hR (a := a9) ea9 t10 t10i d_Law_bus_20 (fun H locs hR => ?_)
    obtain ⟨h11, eh11⟩ : ∃ z, z = sL h2 a9 (0 : Int32).toNatClampNeg (1 : Int64) := ⟨_, rfl⟩
    rw [← eh11] at hR
    have hw := hw h11 eh11
    refine lv_goto (tgt := 36) hx hb d_Law_bus_21 (by decide) ?_
    refine lv_iconst (v := 0) hx hb d_Law_bus_36 (by decide) ?_
    exact mx_iret hx hb hr hlocks hR hw d_Law_bus_37
set_option maxHeartbeats 4000000 in
set_option maxRecDepth 100000 in
theorem mt_Law_netOf (l : Launch) (hlT : l.stackTraces = false) (D : va_G) (cs : CS) (Z : Nat → Nat) (sz : Nat) {post : Int32 → HS → Prop} {h : HS} {x0 : Option Nat} {x1 : Int32} {x2 : Int32} {x3 : Option Nat} (hw : wp_Law_netOf Z post h x0 x1 x2 x3) : Met l y_Law_netOf (Cond.codeWith y_Law_netOf c_Law_netOf 5 (some .int) [(0, 10, 13, 13)] :: WA) ({ frames := 10, cells := 2, slots := 12, locals := 243 } : Room) (mPc D cs Z h sz [va_rf x0, .int x1, .int x2, va_rf x3]) (va_Qi post (mB D cs h sz) (fA h sz)) 2 12 (fA h sz) := by
  refine mx_metW (fun sz => va_Qi post (mB D cs h sz) (fA h sz)) (by decide) (by simp [lg_sl, mx_rf_cat, cat_i, cat_l]) ?_
  intro p e s m args below meth c C hhh hR ls hl
  have hl : lv_has ls 5 [(0, va_rf x0), (1, .int x1), (2, .int x2), (3, va_rf x3)] := by simpa [lv_args, mx_rf_cat, cat_i, cat_l] using hl
  obtain ⟨hx, hb, hr, hml, hown, hW, hlocks, hnm, hK, hZ⟩ := id C
  have hown : s.vm.findClass "NetJoinsLaw" = some m.cls := hown
  have hA : ∀ q, s.heap.size ≤ q → fA h s.heap.size q := fun _ h => Or.inr h
  unfold wp_Law_netOf at hw
  refine mx_aload_n (r := x3) hx hb d_Law_netOf_0 rfl (lv_at hl 3 rfl) ?_
  refine lv_iconst (v := 0) hx hb d_Law_netOf_1 (by decide) ?_
  refine mx_aload_n (r := x0) hx hb d_Law_netOf_2 rfl (lv_at hl 0 rfl) ?_
  refine lv_iload_n hx hb d_Law_netOf_3 rfl (lv_at hl 1 rfl) ?_
  refine lv_iload_n hx hb d_Law_netOf_4 rfl (lv_at hl 2 rfl) ?_
  obtain ⟨a3, ea3, t4, hw⟩ := hw
  refine W.eq (g2 := F0 m 5 ls [.int x2, .int x1, va_rf (some a3), .int (0 : Int32), va_rf x3]) (by rw [← ea3] <;> rfl) ?_
  refine mx_tcatch (As := [.int x1, .int x2]) (rest := [.int (0 : Int32), va_rf x3]) (b := a3) (ci := 0) hx hb hml hown hW hK hZ hhh hR hA ok_NJ_netOf kw_1080 (mt_NJ_netOf l hlT D cs Z _ hw) rfl rfl ⟨Nat.le_of_ble_eq_true rfl, Nat.le_of_ble_eq_true rfl⟩ rfl t4 rfl hl.1 rfl (by simp [mx_rf_cat, cat_i, cat_l]) d_Law_netOf_5 ⟨Nat.le_of_ble_eq_true rfl, Nat.le_of_ble_eq_true rfl⟩ (fun k9 u H locs q9 hw hR => ?_) (fun r1 h2 H locs hw hR => ?_)
  · rcases hw with ⟨rfl, hw⟩
    · refine ⟨13, ⟨⟨by decide, by decide, by decide⟩, Or.inl ⟨kw_418, by decide, rfl⟩⟩, ?_⟩
      refine W.widen (k := 2) (n := 12) (by decide) (by decide) ?_
      refine mx_astore (i := 4) (r := some q9) (lv' := [(4, va_rf (some q9)), (0, va_rf x0), (1, .int x1), (2, .int x2), (3, va_rf x3)]) hx hb d_Law_netOf_13 hl (by decide) (by simp [mx_rf_cat]) (fun ls hl => ?_)
      refine lv_iconst (v := 1) hx hb d_Law_netOf_15 (by decide) ?_
      exact mx_iret hx hb hr hlocks hR hw d_Law_netOf_16
  refine W.widen (k := 2) (n := 12) (by decide) (by decide) ?_
  try dsimp only at hw
  refine lv_i2l hx hb d_Law_netOf_8 rfl ?_
  obtain ⟨a5, ea5, t6, t6i, hw⟩ := hw
  refine mx_last hx hb hK.1 hR (a := a5) ea5 t6 t6i d_Law_netOf_9 (fun H locs hR => ?_)
  obtain ⟨h7, eh7⟩ : ∃ z, z = sL h2 a5 (0 : Int32).toNatClampNeg (r1.toInt64) := ⟨_, rfl⟩
  rw [← eh7] at hR
  have hw := hw h7 eh7
  refine lv_goto (tgt := 17) hx hb d_Law_netOf_10 (by decide) ?_
  refine lv_iconst (v := 0) hx hb d_Law_netOf_17 (by decide) ?_
  exact mx_iret hx hb hr hlocks hR hw d_Law_netOf_18
set_option maxHeartbeats 4000000 in
set_option maxRecDepth 100000 in
theorem mt_Law_rank (l : Launch) (hlT : l.stackTraces = false) (D : va_G) (cs : CS) (Z : Nat → Nat) (sz : Nat) {post : Int32 → HS → Prop} {h : HS} {x0 : Option Nat} {x1 : Int32} {x2 : Int32} {x3 : Option Nat} (hw : wp_Law_rank Z post h x0 x1 x2 x3) : Met l y_Law_rank (Cond.codeWith y_Law_rank c_Law_rank 5 (some .int) [(0, 17, 20, 21)] :: WA) ({ frames := 10, cells := 2, slots := 12, locals := 242 } : Room) (mPc D cs Z h sz [va_rf x0, .int x1, .int x2, va_rf x3]) (va_Qi post (mB D cs h sz) (fA h sz)) 2 12 (fA h sz) := by
  refine mx_metW (fun sz => va_Qi post (mB D cs h sz) (fA h sz)) (by decide) (by simp [lg_sl, mx_rf_cat, cat_i, cat_l]) ?_
  intro p e s m args below meth c C hhh hR ls hl
  have hl : lv_has ls 5 [(0, va_rf x0), (1, .int x1), (2, .int x2), (3, va_rf x3)] := by simpa [lv_args, mx_rf_cat, cat_i, cat_l] using hl
  obtain ⟨hx, hb, hr, hml, hown, hW, hlocks, hnm, hK, hZ⟩ := id C
  have hown : s.vm.findClass "NetJoinsLaw" = some m.cls := hown
  have hA : ∀ q, s.heap.size ≤ q → fA h s.heap.size q := fun _ h => Or.inr h
  unfold wp_Law_rank at hw
  refine mx_aload_n (r := x3) hx hb d_Law_rank_0 rfl (lv_at hl 3 rfl) ?_
  refine lv_iconst (v := 0) hx hb d_Law_rank_1 (by decide) ?_
  refine mx_aload_n (r := x0) hx hb d_Law_rank_2 rfl (lv_at hl 0 rfl) ?_
  refine lv_iload_n hx hb d_Law_rank_3 rfl (lv_at hl 1 rfl) ?_
  refine lv_iload_n hx hb d_Law_rank_4 rfl (lv_at hl 2 rfl) ?_
  obtain ⟨a3, ea3, t4, hw⟩ := hw
  refine W.eq (g2 := F0 m 5 ls [.int x2, .int x1, va_rf (some a3), .int (0 : Int32), va_rf x3]) (by rw [← ea3] <;> rfl) ?_
  refine mx_tcatch (As := [.int x1, .int x2]) (rest := [.int (0 : Int32), va_rf x3]) (b := a3) (ci := 0) hx hb hml hown hW hK hZ hhh hR hA ok_NJ_rank kw_1093 (mt_NJ_rank l hlT D cs Z _ hw) rfl rfl ⟨Nat.le_of_ble_eq_true rfl, Nat.le_of_ble_eq_true rfl⟩ rfl t4 rfl hl.1 rfl (by simp [mx_rf_cat, cat_i, cat_l]) d_Law_rank_5 ⟨Nat.le_of_ble_eq_true rfl, Nat.le_of_ble_eq_true rfl⟩ (fun k9 u H locs q9 hw hR => ?_) (fun r1 h2 H locs hw hR => ?_)
  · rcases hw with ⟨rfl, hw⟩
    · refine ⟨20, ⟨⟨by decide, by decide, by decide⟩, Or.inl ⟨kw_617, by decide, rfl⟩⟩, ?_⟩
      refine W.widen (k := 2) (n := 12) (by decide) (by decide) ?_
      refine mx_astore (i := 4) (r := some q9) (lv' := [(4, va_rf (some q9)), (0, va_rf x0), (1, .int x1), (2, .int x2), (3, va_rf x3)]) hx hb d_Law_rank_20 hl (by decide) (by simp [mx_rf_cat]) (fun ls hl => ?_)
      refine lv_iconst (v := 1) hx hb d_Law_rank_22 (by decide) ?_
      exact mx_iret hx hb hr hlocks hR hw d_Law_rank_23
  refine W.widen (k := 2) (n := 12) (by decide) (by decide) ?_
  try dsimp only at hw
  refine lv_if_eq (tgt := 15) hx hb d_Law_rank_8 (by decide) (fun c5 => ?_) (fun c5 => ?_)
  · have hw := hw.1 c5
    refine lv_lconst (v := 0) hx hb d_Law_rank_15 (by decide) ?_
    obtain ⟨a6, ea6, t7, t7i, hw⟩ := hw
    refine mx_last hx hb hK.1 hR (a := a6) ea6 t7 t7i d_Law_rank_16 (fun H locs hR => ?_)
    obtain ⟨h8, eh8⟩ : ∃ z, z = sL h2 a6 (0 : Int32).toNatClampNeg (0 : Int64) := ⟨_, rfl⟩
    rw [← eh8] at hR
    have hw := hw h8 eh8
    refine lv_goto (tgt := 24) hx hb d_Law_rank_17 (by decide) ?_
    refine lv_iconst (v := 0) hx hb d_Law_rank_24 (by decide) ?_
    exact mx_iret hx hb hr hlocks hR hw d_Law_rank_25
  · have hw := hw.2 c5
    refine lv_lconst (v := 1) hx hb d_Law_rank_11 (by decide) ?_
    refine lv_goto (tgt := 16) hx hb d_Law_rank_12 (by decide) ?_
    obtain ⟨a9, ea9, t10, t10i, hw⟩ := hw
    refine mx_last hx hb hK.1 hR (a := a9) ea9 t10 t10i d_Law_rank_16 (fun H locs hR => ?_)
    obtain ⟨h11, eh11⟩ : ∃ z, z = sL h2 a9 (0 : Int32).toNatClampNeg (1 : Int64) := ⟨_, rfl⟩
    rw [← eh11] at hR
    have hw := hw h11 eh11
    refine lv_goto (tgt := 24) hx hb d_Law_rank_17 (by decide) ?_
    refine lv_iconst (v := 0) hx hb d_Law_rank_24 (by decide) ?_
    exact mx_iret hx hb hr hlocks hR hw d_Law_rank_25
set_option maxHeartbeats 4000000 in
set_option maxRecDepth 100000 in
theorem mt_Law_name (l : Launch) (hlT : l.stackTraces = false) (D : va_G) (cs : CS) (Z : Nat → Nat) (sz : Nat) {post : Int32 → HS → Prop} {h : HS} {x0 : Option Nat} {x1 : Int32} {x2 : Option Nat} (hw : wp_Law_name Z post h x0 x1 x2) : Met l y_Law_name (Cond.codeWith y_Law_name c_Law_name 4 (some .int) [(0, 9, 12, 13)] :: WA) ({ frames := 9, cells := 1, slots := 6, locals := 222 } : Room) (mPc D cs Z h sz [va_rf x0, .int x1, va_rf x2]) (va_Qi post (mB D cs h sz) (fA h sz)) 1 6 (fA h sz) := by
  refine mx_metW (fun sz => va_Qi post (mB D cs h sz) (fA h sz)) (by decide) (by simp [lg_sl, mx_rf_cat, cat_i, cat_l]) ?_
  intro p e s m args below meth c C hhh hR ls hl
  have hl : lv_has ls 4 [(0, va_rf x0), (1, .int x1), (2, va_rf x2)] := by simpa [lv_args, mx_rf_cat, cat_i, cat_l] using hl
  obtain ⟨hx, hb, hr, hml, hown, hW, hlocks, hnm, hK, hZ⟩ := id C
  have hown : s.vm.findClass "NetJoinsLaw" = some m.cls := hown
  have hA : ∀ q, s.heap.size ≤ q → fA h s.heap.size q := fun _ h => Or.inr h
  unfold wp_Law_name at hw
  refine mx_aload_n (r := x2) hx hb d_Law_name_0 rfl (lv_at hl 2 rfl) ?_
  refine lv_iconst (v := 0) hx hb d_Law_name_1 (by decide) ?_
  refine mx_aload_n (r := x0) hx hb d_Law_name_2 rfl (lv_at hl 0 rfl) ?_
  refine lv_iload_n hx hb d_Law_name_3 rfl (lv_at hl 1 rfl) ?_
  obtain ⟨a3, ea3, t4, hw⟩ := hw
  refine W.eq (g2 := F0 m 4 ls [.int x1, va_rf (some a3), .int (0 : Int32), va_rf x2]) (by rw [← ea3] <;> rfl) ?_
  refine mx_tcatch (As := [.int x1]) (rest := [.int (0 : Int32), va_rf x2]) (b := a3) (ci := 0) hx hb hml hown hW hK hZ hhh hR hA ok_NJ_name kw_1101 (mt_NJ_name l hlT D cs Z _ hw) rfl rfl ⟨Nat.le_of_ble_eq_true rfl, Nat.le_of_ble_eq_true rfl⟩ rfl t4 rfl hl.1 rfl (by simp [mx_rf_cat, cat_i, cat_l]) d_Law_name_4 ⟨Nat.le_of_ble_eq_true rfl, Nat.le_of_ble_eq_true rfl⟩ (fun k9 u H locs q9 hw hR => ?_) (fun r1 h2 H locs hw hR => ?_)
  · rcases hw with ⟨rfl, hw⟩
    · refine ⟨12, ⟨⟨by decide, by decide, by decide⟩, Or.inl ⟨kw_418, by decide, rfl⟩⟩, ?_⟩
      refine W.widen (k := 1) (n := 6) (by decide) (by decide) ?_
      refine mx_astore_n (i := 3) (r := some q9) (lv' := [(3, va_rf (some q9)), (0, va_rf x0), (1, .int x1), (2, va_rf x2)]) hx hb d_Law_name_12 rfl hl (by decide) (by simp [mx_rf_cat]) (fun ls hl => ?_)
      refine lv_iconst (v := 1) hx hb d_Law_name_13 (by decide) ?_
      exact mx_iret hx hb hr hlocks hR hw d_Law_name_14
  refine W.widen (k := 1) (n := 6) (by decide) (by decide) ?_
  try dsimp only at hw
  refine lv_i2l hx hb d_Law_name_7 rfl ?_
  obtain ⟨a5, ea5, t6, t6i, hw⟩ := hw
  refine mx_last hx hb hK.1 hR (a := a5) ea5 t6 t6i d_Law_name_8 (fun H locs hR => ?_)
  obtain ⟨h7, eh7⟩ : ∃ z, z = sL h2 a5 (0 : Int32).toNatClampNeg (r1.toInt64) := ⟨_, rfl⟩
  rw [← eh7] at hR
  have hw := hw h7 eh7
  refine lv_goto (tgt := 15) hx hb d_Law_name_9 (by decide) ?_
  refine lv_iconst (v := 0) hx hb d_Law_name_15 (by decide) ?_
  exact mx_iret hx hb hr hlocks hR hw d_Law_name_16
set_option maxHeartbeats 4000000 in
set_option maxRecDepth 100000 in
theorem mt_Law_drop (l : Launch) (hlT : l.stackTraces = false) (D : va_G) (cs : CS) (Z : Nat → Nat) (sz : Nat) {post : Int32 → HS → Prop} {h : HS} {x0 : Option Nat} {x1 : Int32} {x2 : Option Nat} (hw : wp_Law_drop Z post h x0 x1 x2) : Met l y_Law_drop (Cond.codeWith y_Law_drop c_Law_drop 4 (some .int) [(0, 9, 12, 13)] :: WA) ({ frames := 10, cells := 1, slots := 6, locals := 361 } : Room) (mPc D cs Z h sz [va_rf x0, .int x1, va_rf x2]) (va_Qi post (mB D cs h sz) (fA h sz)) 1 6 (fA h sz) := by
  refine mx_metW (fun sz => va_Qi post (mB D cs h sz) (fA h sz)) (by decide) (by simp [lg_sl, mx_rf_cat, cat_i, cat_l]) ?_
  intro p e s m args below meth c C hhh hR ls hl
  have hl : lv_has ls 4 [(0, va_rf x0), (1, .int x1), (2, va_rf x2)] := by simpa [lv_args, mx_rf_cat, cat_i, cat_l] using hl
  obtain ⟨hx, hb, hr, hml, hown, hW, hlocks, hnm, hK, hZ⟩ := id C
  have hown : s.vm.findClass "NetJoinsLaw" = some m.cls := hown
  have hA : ∀ q, s.heap.size ≤ q → fA h s.heap.size q := fun _ h => Or.inr h
  unfold wp_Law_drop at hw
  refine mx_aload_n (r := x2) hx hb d_Law_drop_0 rfl (lv_at hl 2 rfl) ?_
  refine lv_iconst (v := 0) hx hb d_Law_drop_1 (by decide) ?_
  refine mx_aload_n (r := x0) hx hb d_Law_drop_2 rfl (lv_at hl 0 rfl) ?_
  refine lv_iload_n hx hb d_Law_drop_3 rfl (lv_at hl 1 rfl) ?_
  obtain ⟨a3, ea3, t4, hw⟩ := hw
  refine W.eq (g2 := F0 m 4 ls [.int x1, va_rf (some a3), .int (0 : Int32), va_rf x2]) (by rw [← ea3] <;> rfl) ?_
  refine mx_tcatch (As := [.int x1]) (rest := [.int (0 : Int32), va_rf x2]) (b := a3) (ci := 0) hx hb hml hown hW hK hZ hhh hR hA ok_NJ_drop kw_1113 (mt_NJ_drop l hlT D cs Z _ hw) rfl rfl ⟨Nat.le_of_ble_eq_true rfl, Nat.le_of_ble_eq_true rfl⟩ rfl t4 rfl hl.1 rfl (by simp [mx_rf_cat, cat_i, cat_l]) d_Law_drop_4 ⟨Nat.le_of_ble_eq_true rfl, Nat.le_of_ble_eq_true rfl⟩ (fun k9 u H locs q9 hw hR => ?_) (fun r1 h2 H locs hw hR => ?_)
  · rcases hw with ⟨rfl, hw⟩
    · refine ⟨12, ⟨⟨by decide, by decide, by decide⟩, Or.inl ⟨kw_418, by decide, rfl⟩⟩, ?_⟩
      refine W.widen (k := 1) (n := 6) (by decide) (by decide) ?_
      refine mx_astore_n (i := 3) (r := some q9) (lv' := [(3, va_rf (some q9)), (0, va_rf x0), (1, .int x1), (2, va_rf x2)]) hx hb d_Law_drop_12 rfl hl (by decide) (by simp [mx_rf_cat]) (fun ls hl => ?_)
      refine lv_iconst (v := 1) hx hb d_Law_drop_13 (by decide) ?_
      exact mx_iret hx hb hr hlocks hR hw d_Law_drop_14
  refine W.widen (k := 1) (n := 6) (by decide) (by decide) ?_
  try dsimp only at hw
  refine lv_i2l hx hb d_Law_drop_7 rfl ?_
  obtain ⟨a5, ea5, t6, t6i, hw⟩ := hw
  refine mx_last hx hb hK.1 hR (a := a5) ea5 t6 t6i d_Law_drop_8 (fun H locs hR => ?_)
  obtain ⟨h7, eh7⟩ : ∃ z, z = sL h2 a5 (0 : Int32).toNatClampNeg (r1.toInt64) := ⟨_, rfl⟩
  rw [← eh7] at hR
  have hw := hw h7 eh7
  refine lv_goto (tgt := 15) hx hb d_Law_drop_9 (by decide) ?_
  refine lv_iconst (v := 0) hx hb d_Law_drop_15 (by decide) ?_
  exact mx_iret hx hb hr hlocks hR hw d_Law_drop_16
set_option maxHeartbeats 4000000 in
set_option maxRecDepth 100000 in
theorem mt_Law_open (l : Launch) (hlT : l.stackTraces = false) (D : va_G) (cs : CS) (Z : Nat → Nat) (sz : Nat) {post : Int32 → HS → Prop} {h : HS} {x0 : Option Nat} {x1 : Int32} {x2 : Option Nat} (hw : wp_Law_open Z post h x0 x1 x2) : Met l y_Law_open (Cond.codeWith y_Law_open c_Law_open 4 (some .int) [(0, 16, 19, 13)] :: WA) ({ frames := 10, cells := 1, slots := 6, locals := 243 } : Room) (mPc D cs Z h sz [va_rf x0, .int x1, va_rf x2]) (va_Qi post (mB D cs h sz) (fA h sz)) 1 6 (fA h sz) := by
  refine mx_metW (fun sz => va_Qi post (mB D cs h sz) (fA h sz)) (by decide) (by simp [lg_sl, mx_rf_cat, cat_i, cat_l]) ?_
  intro p e s m args below meth c C hhh hR ls hl
  have hl : lv_has ls 4 [(0, va_rf x0), (1, .int x1), (2, va_rf x2)] := by simpa [lv_args, mx_rf_cat, cat_i, cat_l] using hl
  obtain ⟨hx, hb, hr, hml, hown, hW, hlocks, hnm, hK, hZ⟩ := id C
  have hown : s.vm.findClass "NetJoinsLaw" = some m.cls := hown
  have hA : ∀ q, s.heap.size ≤ q → fA h s.heap.size q := fun _ h => Or.inr h
  unfold wp_Law_open at hw
  refine mx_aload_n (r := x2) hx hb d_Law_open_0 rfl (lv_at hl 2 rfl) ?_
  refine lv_iconst (v := 0) hx hb d_Law_open_1 (by decide) ?_
  refine mx_aload_n (r := x0) hx hb d_Law_open_2 rfl (lv_at hl 0 rfl) ?_
  refine lv_iload_n hx hb d_Law_open_3 rfl (lv_at hl 1 rfl) ?_
  obtain ⟨a3, ea3, t4, hw⟩ := hw
  refine W.eq (g2 := F0 m 4 ls [.int x1, va_rf (some a3), .int (0 : Int32), va_rf x2]) (by rw [← ea3] <;> rfl) ?_
  refine mx_tcatch (As := [.int x1]) (rest := [.int (0 : Int32), va_rf x2]) (b := a3) (ci := 0) hx hb hml hown hW hK hZ hhh hR hA ok_NJ_open kw_1125 (mt_NJ_open l hlT D cs Z _ hw) rfl rfl ⟨Nat.le_of_ble_eq_true rfl, Nat.le_of_ble_eq_true rfl⟩ rfl t4 rfl hl.1 rfl (by simp [mx_rf_cat, cat_i, cat_l]) d_Law_open_4 ⟨Nat.le_of_ble_eq_true rfl, Nat.le_of_ble_eq_true rfl⟩ (fun k9 u H locs q9 hw hR => ?_) (fun r1 h2 H locs hw hR => ?_)
  · rcases hw with ⟨rfl, hw⟩
    · refine ⟨19, ⟨⟨by decide, by decide, by decide⟩, Or.inl ⟨kw_418, by decide, rfl⟩⟩, ?_⟩
      refine W.widen (k := 1) (n := 6) (by decide) (by decide) ?_
      refine mx_astore_n (i := 3) (r := some q9) (lv' := [(3, va_rf (some q9)), (0, va_rf x0), (1, .int x1), (2, va_rf x2)]) hx hb d_Law_open_19 rfl hl (by decide) (by simp [mx_rf_cat]) (fun ls hl => ?_)
      refine lv_iconst (v := 1) hx hb d_Law_open_20 (by decide) ?_
      exact mx_iret hx hb hr hlocks hR hw d_Law_open_21
  refine W.widen (k := 1) (n := 6) (by decide) (by decide) ?_
  try dsimp only at hw
  refine lv_if_eq (tgt := 14) hx hb d_Law_open_7 (by decide) (fun c5 => ?_) (fun c5 => ?_)
  · have hw := hw.1 c5
    refine lv_lconst (v := 0) hx hb d_Law_open_14 (by decide) ?_
    obtain ⟨a6, ea6, t7, t7i, hw⟩ := hw
    refine mx_last hx hb hK.1 hR (a := a6) ea6 t7 t7i d_Law_open_15 (fun H locs hR => ?_)
    obtain ⟨h8, eh8⟩ : ∃ z, z = sL h2 a6 (0 : Int32).toNatClampNeg (0 : Int64) := ⟨_, rfl⟩
    rw [← eh8] at hR
    have hw := hw h8 eh8
    refine lv_goto (tgt := 22) hx hb d_Law_open_16 (by decide) ?_
    refine lv_iconst (v := 0) hx hb d_Law_open_22 (by decide) ?_
    exact mx_iret hx hb hr hlocks hR hw d_Law_open_23
  · have hw := hw.2 c5
    refine lv_lconst (v := 1) hx hb d_Law_open_10 (by decide) ?_
    refine lv_goto (tgt := 15) hx hb d_Law_open_11 (by decide) ?_
    obtain ⟨a9, ea9, t10, t10i, hw⟩ := hw
    refine mx_last hx hb hK.1 hR (a := a9) ea9 t10 t10i d_Law_open_15 (fun H locs hR => ?_)
    obtain ⟨h11, eh11⟩ : ∃ z, z = sL h2 a9 (0 : Int32).toNatClampNeg (1 : Int64) := ⟨_, rfl⟩
    rw [← eh11] at hR
    have hw := hw h11 eh11
    refine lv_goto (tgt := 22) hx hb d_Law_open_16 (by decide) ?_
    refine lv_iconst (v := 0) hx hb d_Law_open_22 (by decide) ?_
    exact mx_iret hx hb hr hlocks hR hw d_Law_open_23
