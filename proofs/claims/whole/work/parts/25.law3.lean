theorem kw_31 : (Cond.classLink "NetJoinsLaw" (8 : Nat) "NetJoins") ∈ WA := wa_t 31 (by decide +kernel) (by decide +kernel)
theorem kw_32 : (Cond.instantiable "NetJoins" (18 : Nat)) ∈ WA := wa_t 32 (by decide +kernel) (by decide +kernel)
theorem kw_33 : (Cond.methodLink "NetJoinsLaw" (60 : Nat) ({ cls := "NetJoins", name := "<init>", desc := "()V" } : MethodName)) ∈ WA := wa_t 33 (by decide +kernel) (by decide +kernel)
theorem kw_1129 : (Cond.classLink "NetJoinsLaw" (61 : Nat) "NetJoinsModel") ∈ WA := wa_t 1129 (by decide +kernel) (by decide +kernel)
theorem kw_1130 : (Cond.instantiable "NetJoinsModel" (33 : Nat)) ∈ WA := wa_t 1130 (by decide +kernel) (by decide +kernel)
theorem kw_1131 : (Cond.methodLink "NetJoinsLaw" (63 : Nat) ({ cls := "NetJoinsModel", name := "<init>", desc := "()V" } : MethodName)) ∈ WA := wa_t 1131 (by decide +kernel) (by decide +kernel)
def wl_start (Z : Nat → Nat) (post : Nat → Nat → Nat → HS → Prop) (h : HS) : Prop :=
  ∀ q1, gT h q1 = 0 → (∀ h2, h2 = nH h q1 16 0 → (wp_NJ_init Z (fun h4 => ∀ q5, gT h4 q5 = 0 → (∀ h6, h6 = nH h4 q5 24 0 → (wp_Mod_init Z (fun h8 => ∀ q9, gT h8 q9 = 0 → (∀ h10, h10 = nH h8 q9 3 1 → (post q1 q5 q9 h10))) h6 q5))) h2 q1))
set_option maxHeartbeats 4000000 in
set_option maxRecDepth 100000 in
theorem ml_start {D : va_G} {cs : CS} {Z : Nat → Nat} {h0 : HS} {p : Program} {l : Launch} {e : Env} {s : State} {m : MethodId} {below : List Frame} {meth : Method} {c : Code} {v0 L : Nat} {xs : Nat → Int32} (C : lC l D cs Z h0 p s m meth c v0 L xs) (post : Nat → Nat → Nat → HS → Prop) (kk : ∀ (vx vm vo : Nat) (h : HS) (H : Heap) (locs : List Loc) (ls : Array Slot), post vx vm vo h → lv_has ls 7 [(0, va_rf (some v0)), (1, va_rf (some vx)), (2, va_rf (some vm)), (3, va_rf (some vo)), (4, .int (0 : Int32))] → mR D cs (fA h0 s.heap.size) h s.heap H locs → W p l e room_1 s m #[Value.ref v0] below meth c H locs 83 55436 (lw_Z below #[Value.ref v0] s) (F0 m 23 ls [])) : ∀ (h : HS) (H : Heap) (locs : List Loc) (ls : Array Slot), wl_start Z post h → lv_has ls 7 [(0, va_rf (some v0))] → mR D cs (fA h0 s.heap.size) h s.heap H locs → W p l e room_1 s m #[Value.ref v0] below meth c H locs 0 0 (lw_Z below #[Value.ref v0] s) (F0 m 0 ls []) := by
  obtain ⟨hx, hb, hr, hml, hown, hW, hlocks, hK, hZ, hX, hbl, hL, hlT, hh0⟩ := id C
  have hA : ∀ q, s.heap.size ≤ q → fA h0 s.heap.size q := fun _ h => Or.inr h
  intro h H locs ls hw hl hR
  unfold wl_start at hw
  refine mx_new (ci := 0) (C := "NetJoins") (T := F_NJ) (N := 18) hx hb hW hown hK.1 hR hA rfl i_NJ t_NJ t_NJ_ok kw_31 kw_32 kw_1 (fun q j hj => nf_NJ _ q j hj) (by decide) (by decide) d_Law_law_0 (fun q1 H tq1 hR => ?_)
  refine W.widen (k := 1) (n := 18) (by decide) (by decide) ?_
  have hw := hw q1 tq1
  obtain ⟨h2, eh2⟩ : ∃ z, z = nH h q1 16 0 := ⟨_, rfl⟩
  rw [← eh2] at hR
  have hw := hw h2 eh2
  refine lv_dup hx hb d_Law_law_3 (mx_rf_cat _) ?_
  refine mx_callv (va_runI (b := q1) (As := []) (rest := [va_rf (some q1)]) ⟨hx, hb, hml, hown, hW⟩ (mt_NJ_init l D cs Z _ hw) (mx_cwI hW ok_NJ_init kw_33 rfl rfl ⟨Nat.le_of_ble_eq_true rfl, Nat.le_of_ble_eq_true rfl⟩) (mx_preS hK hZ hA hR) rfl rfl hl.1 rfl (lv_room (Nat.le_of_ble_eq_true rfl)) d_Law_law_4 ⟨Nat.le_of_ble_eq_true rfl, Nat.le_of_ble_eq_true rfl⟩) hR hA (fun h4 H locs hw hR => ?_)
  refine W.widen (k := 59) (n := 11006) (by decide) (by decide) ?_
  try dsimp only at hw
  refine mx_astore_n (i := 1) (r := some q1) (lv' := [(1, va_rf (some q1)), (0, va_rf (some v0))]) hx hb d_Law_law_7 rfl hl (by decide) rfl (fun ls hl => ?_)
  refine mx_new (ci := 8) (C := "NetJoinsModel") (T := F_Mod) (N := 33) hx hb hW hown hK.1 hR hA rfl i_Mod t_Mod t_Mod_ok kw_1129 kw_1130 kw_8 (fun q j hj => nf_Mod _ q j hj) (by decide) (by decide) d_Law_law_8 (fun q5 H tq5 hR => ?_)
  refine W.widen (k := 60) (n := 11039) (by decide) (by decide) ?_
  have hw := hw q5 tq5
  obtain ⟨h6, eh6⟩ : ∃ z, z = nH h4 q5 24 0 := ⟨_, rfl⟩
  rw [← eh6] at hR
  have hw := hw h6 eh6
  refine lv_dup hx hb d_Law_law_11 (mx_rf_cat _) ?_
  refine mx_callv (va_runI (b := q5) (As := []) (rest := [va_rf (some q5)]) ⟨hx, hb, hml, hown, hW⟩ (mt_Mod_init l D cs Z _ hw) (mx_cwI hW ok_Mod_init kw_1131 rfl rfl ⟨Nat.le_of_ble_eq_true rfl, Nat.le_of_ble_eq_true rfl⟩) (mx_preS hK hZ hA hR) rfl rfl hl.1 rfl (lv_room (Nat.le_of_ble_eq_true rfl)) d_Law_law_12 ⟨Nat.le_of_ble_eq_true rfl, Nat.le_of_ble_eq_true rfl⟩) hR hA (fun h8 H locs hw hR => ?_)
  refine W.widen (k := 82) (n := 55435) (by decide) (by decide) ?_
  try dsimp only at hw
  refine mx_astore_n (i := 2) (r := some q5) (lv' := [(2, va_rf (some q5)), (1, va_rf (some q1)), (0, va_rf (some v0))]) hx hb d_Law_law_15 rfl hl (by decide) rfl (fun ls hl => ?_)
  refine lv_iconst (v := 1) hx hb d_Law_law_16 (by decide) ?_
  refine mx_arr_l (N' := 1) hx hb hW hK.1 hR hA kw_1235 (by decide) (by decide) (by decide) (by decide) (by decide) d_Law_law_17 (fun q9 H tq9 hR => ?_)
  refine W.widen (k := 83) (n := 55436) (by first | decide | omega) (by first | decide | omega) ?_
  have hw := hw q9 tq9
  obtain ⟨h10, eh10⟩ : ∃ z, z = nH h8 q9 3 1 := ⟨_, rfl⟩
  rw [← eh10] at hR
  have hw := hw h10 eh10
  refine mx_astore_n (i := 3) (r := some q9) (lv' := [(3, va_rf (some q9)), (2, va_rf (some q5)), (1, va_rf (some q1)), (0, va_rf (some v0))]) hx hb d_Law_law_19 rfl hl (by decide) rfl (fun ls hl => ?_)
  refine lv_iconst (v := 0) hx hb d_Law_law_20 (by decide) ?_
  refine lv_istore (i := 4) (lv' := [(4, .int (0 : Int32)), (3, va_rf (some q9)), (2, va_rf (some q5)), (1, va_rf (some q1)), (0, va_rf (some v0))]) hx hb d_Law_law_21 hl (by decide) rfl (fun ls hl => ?_)
  exact kk q1 q5 q9 _ _ _ _ hw (lv_sub hl [4, 3, 2, 1, 0] rfl) hR
