/-- one call of the script, by its first word -/
def wl (Z : Nat → Nat) (w : Nat → Int32) (vx vm vo : Nat) (K : HS → Prop) (h : HS) : Prop :=
  ((w 0 &&& 15) = 0 → wl_0 Z w vx vm vo K h) ∧ ((w 0 &&& 15) = 1 → wl_1 Z w vx vm vo K h) ∧ ((w 0 &&& 15) = 2 → wl_2 Z w vx vm vo K h) ∧ ((w 0 &&& 15) = 3 → wl_3 Z w vx vm vo K h) ∧ ((w 0 &&& 15) = 4 → wl_4 Z w vx vm vo K h) ∧ ((w 0 &&& 15) = 5 → wl_5 Z w vx vm vo K h) ∧ ((w 0 &&& 15) = 6 → wl_6 Z w vx vm vo K h) ∧ ((w 0 &&& 15) = 7 → wl_7 Z w vx vm vo K h) ∧ ((w 0 &&& 15) = 8 → wl_8 Z w vx vm vo K h) ∧ ((w 0 &&& 15) = 9 → wl_9 Z w vx vm vo K h) ∧ ((w 0 &&& 15) = 10 → wl_10 Z w vx vm vo K h) ∧ ((w 0 &&& 15) = 11 → wl_11 Z w vx vm vo K h) ∧ ((w 0 &&& 15) = 12 → wl_12 Z w vx vm vo K h) ∧ ((w 0 &&& 15) = 13 → wl_13 Z w vx vm vo K h) ∧ ((w 0 &&& 15) = 14 → wl_14 Z w vx vm vo K h) ∧ ((w 0 &&& 15) = 15 → wl_15 Z w vx vm vo K h)
theorem l_and15 (v : Int32) : ∃ j : Nat, j < 16 ∧ (v &&& 15) = nI j := by
  refine ⟨v.toBitVec.toNat % 16, Nat.mod_lt _ (by decide), ?_⟩
  apply Int32.toBitVec_inj.mp
  apply BitVec.eq_of_toNat_eq
  have h1 : (v &&& 15).toBitVec.toNat = v.toBitVec.toNat % 16 := by
    rw [Int32.toBitVec_and, BitVec.toNat_and]
    exact Nat.and_two_pow_sub_one_eq_mod v.toBitVec.toNat 4
  rw [h1]
  show _ = (Int32.ofNat (v.toBitVec.toNat % 16)).toBitVec.toNat
  have h2 : v.toBitVec.toNat % 16 < 16 := Nat.mod_lt _ (by decide)
  rw [Int32.toBitVec_ofNat', BitVec.toNat_ofNat]
  exact (Nat.mod_eq_of_lt (by omega)).symm
theorem l_sub10 {L : Nat} (hL : L ≤ 5120) : (Int32.ofNat L - 10).toInt = (L : Int) - 10 := by
  have h1 : (Int32.ofNat L).toInt = (L : Int) := nI_toInt (n := L) (by omega)
  rw [Int32.toInt_sub, h1, show (10 : Int32).toInt = 10 from by decide]
  exact Int.bmod_eq_of_le (by omega) (by omega)

/-- the law's own end -/
theorem lw_ret {p : Program} {l : Launch} {e : Env} {s : State} {m : MethodId} {below : List Frame} {meth : Method} {c : Code} {b : Nat} (hx : p.tables.exec = Jvm.exec) (hb : c.code = code) (hr : meth.sig.returnType = ret) (hlocks : meth.locks = false) {pc : Nat} {H : Heap} {ls : Array Slot} (hdg : decode code pc = .ok (.ireturn, 1)) : W p l e room_1 s m #[Value.ref b] below meth c H [] room_1.cells room_1.slots (lw_Z below #[Value.ref b] s) (F0 m pc ls [.int 1]) := by
  intro T hT X
  obtain ⟨fs, hret, hrun, hended, hW, hframe⟩ := X.leave (v := some (.int 1)) (hlocks := hlocks) (fun h => by rw [hr] at h; cases h)
  have hmeth' : T.vm.method? m = some meth := X.method'
  refine ⟨T.setFrames fs, ?_, .returned (some (.int 1)), hrun, hended, rfl, ⟨_, rfl⟩, hW, hframe⟩
  jvm_step X.here [X.here.top, hx, hb, hdg, hmeth', hr, ret, narrow_b1]
  (try refine ⟨rfl, ?_⟩); (try refine ⟨rfl, ?_⟩)
  first | (intro acts; rw [hret _ acts rfl rfl rfl]) | rw [hret _ _ rfl rfl rfl]
  exact Steps.refl _
set_option maxHeartbeats 4000000 in
set_option maxRecDepth 100000 in
theorem lw_loop {D : va_G} {cs : CS} {Z : Nat → Nat} {h0 : HS} {p : Program} {l : Launch} {e : Env} {s : State} {m : MethodId} {below : List Frame} {meth : Method} {c : Code} {v0 L : Nat} {xs : Nat → Int32} (C : lC l D cs Z h0 p s m meth c v0 L xs) (vx vm vo : Nat) (Inv : HS → Prop) (hInv : ∀ (w : Nat → Int32) (h : HS), Inv h → wl Z w vx vm vo Inv h) :
    ∀ (n k cells slots : Nat) (h : HS) (H : Heap) (locs : List Loc) (ls : Array Slot), 10 * k ≤ L → L ≤ 10 * k + 10 * n → cells + n * 8 ≤ room_1.cells → slots + n * 1123 ≤ room_1.slots → Inv h → lv_has ls 7 [(0, va_rf (some v0)), (1, va_rf (some vx)), (2, va_rf (some vm)), (3, va_rf (some vo)), (4, .int (nI (10 * k)))] → mR D cs (fA h0 s.heap.size) h s.heap H locs → W p l e room_1 s m #[Value.ref v0] below meth c H locs cells slots (lw_Z below #[Value.ref v0] s) (F0 m 23 ls []) := by
  obtain ⟨hx, hb, hr, hml, hown, hW, hlocks, hK, hZ, hX, hbl, hL, hlT, hh0⟩ := id C
  intro n
  induction n with
  | zero =>
    intro k cells slots h H locs ls hk1 hk2 hc hs hI hl hR
    have hi : (nI (10 * k)).toInt = ((10 * k : Nat) : Int) := nI_toInt (by omega)
    have hlt : (Int32.ofNat L - 10) < nI (10 * k) := by rw [Int32.lt_iff_toInt_lt, l_sub10 hL, hi]; omega
    refine lv_iload hx hb d_Law_law_23 (lv_at hl 4 rfl) ?_
    refine mx_aload_n (r := some v0) hx hb d_Law_law_25 rfl (lv_at hl 0 rfl) ?_
    refine mx_slen hx hb hX hbl hh0 hR d_Law_law_26 ?_
    refine lv_bipush (v := 10) hx hb d_Law_law_27 (by decide) ?_
    refine lv_isub hx hb d_Law_law_29 ?_
    refine lv_icmp_gt (tgt := 1481) hx hb d_Law_law_30 (by decide) (fun _ => ?_) (fun z => absurd hlt z)
    refine lv_iconst (v := 1) hx hb d_Law_law_1481 (by decide) ?_
    refine va_forget (fun q hq => ?_) ?_
    · rcases hR.2.2.2 q hq with z | z
      · exact absurd (hh0 _) z
      · exact z
    refine W.widen (k := room_1.cells) (n := room_1.slots) (by omega) (by omega) ?_
    exact lw_ret hx hb hr hlocks d_Law_law_1482
  | succ n ih =>
    intro k cells slots h H locs ls hk1 hk2 hc hs hI hl hR
    have hi : (nI (10 * k)).toInt = ((10 * k : Nat) : Int) := nI_toInt (by omega)
    refine lv_iload hx hb d_Law_law_23 (lv_at hl 4 rfl) ?_
    refine mx_aload_n (r := some v0) hx hb d_Law_law_25 rfl (lv_at hl 0 rfl) ?_
    refine mx_slen hx hb hX hbl hh0 hR d_Law_law_26 ?_
    refine lv_bipush (v := 10) hx hb d_Law_law_27 (by decide) ?_
    refine lv_isub hx hb d_Law_law_29 ?_
    refine lv_icmp_gt (tgt := 1481) hx hb d_Law_law_30 (by decide) (fun _ => ?_) (fun hge => ?_)
    · refine lv_iconst (v := 1) hx hb d_Law_law_1481 (by decide) ?_
      refine va_forget (fun q hq => ?_) ?_
      · rcases hR.2.2.2 q hq with z | z
        · exact absurd (hh0 _) z
        · exact z
      refine W.widen (k := room_1.cells) (n := room_1.slots) (by omega) (by omega) ?_
      exact lw_ret hx hb hr hlocks d_Law_law_1482
    have hge2 : 10 * k + 10 ≤ L := by
      have hge1 : ¬ (Int32.ofNat L - 10) < nI (10 * k) := hge
      rw [Int32.lt_iff_toInt_lt, l_sub10 hL, hi] at hge1
      omega
    obtain ⟨w, ew⟩ : ∃ w : Nat → Int32, w = fun j => xs (10 * k + j) := ⟨_, rfl⟩
    have hw9 : ∀ j, j < 10 → vp_in (nI (10 * k) + Int32.ofNat j) L ∧ xs (nI (10 * k) + Int32.ofNat j).toNatClampNeg = w j := by
      intro j hj
      have e1 : nI (10 * k) + Int32.ofNat j = nI (10 * k + j) := nI_add _ _
      rw [e1]
      refine ⟨vp_in_nI (by omega) (by omega), ?_⟩
      rw [nI_clamp (by omega), ew]
    have hw0 : vp_in (nI (10 * k)) L ∧ xs (nI (10 * k)).toNatClampNeg = w 0 := by
      refine ⟨vp_in_nI (by omega) (by omega), ?_⟩
      rw [nI_clamp (by omega), ew]
      rfl
    have kk : ∀ (h : HS) (H : Heap) (locs : List Loc) (ls : Array Slot), Inv h → lv_has ls 7 [(0, va_rf (some v0)), (1, va_rf (some vx)), (2, va_rf (some vm)), (3, va_rf (some vo)), (4, .int (nI (10 * k)))] → mR D cs (fA h0 s.heap.size) h s.heap H locs → W p l e room_1 s m #[Value.ref v0] below meth c H locs (cells + 8) (slots + 1123) (lw_Z below #[Value.ref v0] s) (F0 m 1475 ls []) := by
      intro h H locs ls hI hl hR
      refine lv_iinc (v := nI (10 * (k + 1))) (lv' := [(4, .int (nI (10 * (k + 1)))), (0, va_rf (some v0)), (1, va_rf (some vx)), (2, va_rf (some vm)), (3, va_rf (some vo))]) hx hb d_Law_law_1475 hl (k := 4) rfl (by
        rw [show 10 * (k + 1) = 10 * k + 10 from by omega, ← nI_add]; rfl) (by decide) rfl (fun ls hl => ?_)
      refine lv_goto (tgt := 23) hx hb d_Law_law_1478 (by decide) ?_
      exact ih (k + 1) _ _ h H locs ls (by omega) (by omega) (by omega) (by omega) hI (lv_sub hl [1, 2, 3, 4, 0] rfl) hR
    have hwl := hInv w h hI
    refine mx_aload_n (r := some v0) hx hb d_Law_law_33 rfl (lv_at hl 0 rfl) ?_
    refine lv_iload hx hb d_Law_law_34 (lv_at hl 4 rfl) ?_
    refine mx_sld hx hb hX hbl hh0 hR hw0 d_Law_law_36 ?_
    refine lv_bipush (v := 15) hx hb d_Law_law_37 (by decide) ?_
    refine lv_iand hx hb d_Law_law_39 ?_
    obtain ⟨j, hj, ej⟩ := l_and15 (w 0)
    unfold wl at hwl
    obtain ⟨g0, g1, g2, g3, g4, g5, g6, g7, g8, g9, g10, g11, g12, g13, g14, g15⟩ := hwl
    have hjs : j = 0 ∨ j = 1 ∨ j = 2 ∨ j = 3 ∨ j = 4 ∨ j = 5 ∨ j = 6 ∨ j = 7 ∨ j = 8 ∨ j = 9 ∨ j = 10 ∨ j = 11 ∨ j = 12 ∨ j = 13 ∨ j = 14 ∨ j = 15 := by omega
    rcases hjs with rfl | rfl | rfl | rfl | rfl | rfl | rfl | rfl | rfl | rfl | rfl | rfl | rfl | rfl | rfl | rfl
    · have ek : (w 0 &&& 15) = (0 : Int32) := ej
      refine W.eq (g2 := F0 m 40 ls [.int (0 : Int32)]) (congrArg (fun v : Int32 => F0 m 40 ls [Value.int v]) ek) ?_
      refine lv_tableIn (off := 80) (tgt := 120) hx hb d_Law_law_40 (by decide) (by decide) (by decide) (by decide) ?_
      exact ml_0 C w vx vm vo _ hw9 Inv cells slots (by omega) (by omega) kk h H locs ls (g0 ek) hl hR
    · have ek : (w 0 &&& 15) = (1 : Int32) := ej
      refine W.eq (g2 := F0 m 40 ls [.int (1 : Int32)]) (congrArg (fun v : Int32 => F0 m 40 ls [Value.int v]) ek) ?_
      refine lv_tableIn (off := 148) (tgt := 188) hx hb d_Law_law_40 (by decide) (by decide) (by decide) (by decide) ?_
      exact ml_1 C w vx vm vo _ hw9 Inv cells slots (by omega) (by omega) kk h H locs ls (g1 ek) hl hR
    · have ek : (w 0 &&& 15) = (2 : Int32) := ej
      refine W.eq (g2 := F0 m 40 ls [.int (2 : Int32)]) (congrArg (fun v : Int32 => F0 m 40 ls [Value.int v]) ek) ?_
      refine lv_tableIn (off := 388) (tgt := 428) hx hb d_Law_law_40 (by decide) (by decide) (by decide) (by decide) ?_
      exact ml_2 C w vx vm vo _ hw9 Inv cells slots (by omega) (by omega) kk h H locs ls (g2 ek) hl hR
    · have ek : (w 0 &&& 15) = (3 : Int32) := ej
      refine W.eq (g2 := F0 m 40 ls [.int (3 : Int32)]) (congrArg (fun v : Int32 => F0 m 40 ls [Value.int v]) ek) ?_
      refine lv_tableIn (off := 539) (tgt := 579) hx hb d_Law_law_40 (by decide) (by decide) (by decide) (by decide) ?_
      exact ml_3 C w vx vm vo _ hw9 Inv cells slots (by omega) (by omega) kk h H locs ls (g3 ek) hl hR
    · have ek : (w 0 &&& 15) = (4 : Int32) := ej
      refine W.eq (g2 := F0 m 40 ls [.int (4 : Int32)]) (congrArg (fun v : Int32 => F0 m 40 ls [Value.int v]) ek) ?_
      refine lv_tableIn (off := 697) (tgt := 737) hx hb d_Law_law_40 (by decide) (by decide) (by decide) (by decide) ?_
      exact ml_4 C w vx vm vo _ hw9 Inv cells slots (by omega) (by omega) kk h H locs ls (g4 ek) hl hR
    · have ek : (w 0 &&& 15) = (5 : Int32) := ej
      refine W.eq (g2 := F0 m 40 ls [.int (5 : Int32)]) (congrArg (fun v : Int32 => F0 m 40 ls [Value.int v]) ek) ?_
      refine lv_tableIn (off := 855) (tgt := 895) hx hb d_Law_law_40 (by decide) (by decide) (by decide) (by decide) ?_
      exact ml_5 C w vx vm vo _ hw9 Inv cells slots (by omega) (by omega) kk h H locs ls (g5 ek) hl hR
    · have ek : (w 0 &&& 15) = (6 : Int32) := ej
      refine W.eq (g2 := F0 m 40 ls [.int (6 : Int32)]) (congrArg (fun v : Int32 => F0 m 40 ls [Value.int v]) ek) ?_
      refine lv_tableIn (off := 942) (tgt := 982) hx hb d_Law_law_40 (by decide) (by decide) (by decide) (by decide) ?_
      exact ml_6 C w vx vm vo _ hw9 Inv cells slots (by omega) (by omega) kk h H locs ls (g6 ek) hl hR
    · have ek : (w 0 &&& 15) = (7 : Int32) := ej
      refine W.eq (g2 := F0 m 40 ls [.int (7 : Int32)]) (congrArg (fun v : Int32 => F0 m 40 ls [Value.int v]) ek) ?_
      refine lv_tableIn (off := 1041) (tgt := 1081) hx hb d_Law_law_40 (by decide) (by decide) (by decide) (by decide) ?_
      exact ml_7 C w vx vm vo _ hw9 Inv cells slots (by omega) (by omega) kk h H locs ls (g7 ek) hl hR
    · have ek : (w 0 &&& 15) = (8 : Int32) := ej
      refine W.eq (g2 := F0 m 40 ls [.int (8 : Int32)]) (congrArg (fun v : Int32 => F0 m 40 ls [Value.int v]) ek) ?_
      refine lv_tableIn (off := 1054) (tgt := 1094) hx hb d_Law_law_40 (by decide) (by decide) (by decide) (by decide) ?_
      exact ml_8 C w vx vm vo _ hw9 Inv cells slots (by omega) (by omega) kk h H locs ls (g8 ek) hl hR
    · have ek : (w 0 &&& 15) = (9 : Int32) := ej
      refine W.eq (g2 := F0 m 40 ls [.int (9 : Int32)]) (congrArg (fun v : Int32 => F0 m 40 ls [Value.int v]) ek) ?_
      refine lv_tableIn (off := 1122) (tgt := 1162) hx hb d_Law_law_40 (by decide) (by decide) (by decide) (by decide) ?_
      exact ml_9 C w vx vm vo _ hw9 Inv cells slots (by omega) (by omega) kk h H locs ls (g9 ek) hl hR
    · have ek : (w 0 &&& 15) = (10 : Int32) := ej
      refine W.eq (g2 := F0 m 40 ls [.int (10 : Int32)]) (congrArg (fun v : Int32 => F0 m 40 ls [Value.int v]) ek) ?_
      refine lv_tableIn (off := 1197) (tgt := 1237) hx hb d_Law_law_40 (by decide) (by decide) (by decide) (by decide) ?_
      exact ml_10 C w vx vm vo _ hw9 Inv cells slots (by omega) (by omega) kk h H locs ls (g10 ek) hl hR
    · have ek : (w 0 &&& 15) = (11 : Int32) := ej
      refine W.eq (g2 := F0 m 40 ls [.int (11 : Int32)]) (congrArg (fun v : Int32 => F0 m 40 ls [Value.int v]) ek) ?_
      refine lv_tableIn (off := 1253) (tgt := 1293) hx hb d_Law_law_40 (by decide) (by decide) (by decide) (by decide) ?_
      exact ml_11 C w vx vm vo _ hw9 Inv cells slots (by omega) (by omega) kk h H locs ls (g11 ek) hl hR
    · have ek : (w 0 &&& 15) = (12 : Int32) := ej
      refine W.eq (g2 := F0 m 40 ls [.int (12 : Int32)]) (congrArg (fun v : Int32 => F0 m 40 ls [Value.int v]) ek) ?_
      refine lv_tableIn (off := 1309) (tgt := 1349) hx hb d_Law_law_40 (by decide) (by decide) (by decide) (by decide) ?_
      exact ml_12 C w vx vm vo _ hw9 Inv cells slots (by omega) (by omega) kk h H locs ls (g12 ek) hl hR
    · have ek : (w 0 &&& 15) = (13 : Int32) := ej
      refine W.eq (g2 := F0 m 40 ls [.int (13 : Int32)]) (congrArg (fun v : Int32 => F0 m 40 ls [Value.int v]) ek) ?_
      refine lv_tableIn (off := 1372) (tgt := 1412) hx hb d_Law_law_40 (by decide) (by decide) (by decide) (by decide) ?_
      exact ml_13 C w vx vm vo _ hw9 Inv cells slots (by omega) (by omega) kk h H locs ls (g13 ek) hl hR
    · have ek : (w 0 &&& 15) = (14 : Int32) := ej
      refine W.eq (g2 := F0 m 40 ls [.int (14 : Int32)]) (congrArg (fun v : Int32 => F0 m 40 ls [Value.int v]) ek) ?_
      refine lv_tableIn (off := 1397) (tgt := 1437) hx hb d_Law_law_40 (by decide) (by decide) (by decide) (by decide) ?_
      exact ml_14 C w vx vm vo _ hw9 Inv cells slots (by omega) (by omega) kk h H locs ls (g14 ek) hl hR
    · have ek : (w 0 &&& 15) = (15 : Int32) := ej
      refine W.eq (g2 := F0 m 40 ls [.int (15 : Int32)]) (congrArg (fun v : Int32 => F0 m 40 ls [Value.int v]) ek) ?_
      refine lv_tableIn (off := 1410) (tgt := 1450) hx hb d_Law_law_40 (by decide) (by decide) (by decide) (by decide) ?_
      exact ml_15 C w vx vm vo _ hw9 Inv cells slots (by omega) (by omega) kk h H locs ls (g15 ek) hl hR

