/-! ROWS OVER PURE HEAPS, an instruction each -/
section MXA
variable {p : Program} {l : Launch} {e : Env} {R : Room} {s : State} {m : MethodId} {args : Array Value} {below : List Frame} {meth : Method} {c : Code} {H : Heap} {locs : List Loc} {cells slots : Nat} {Q : State → Prop}
variable {cc : ByteArray} {pc : Nat} {ls : Array Slot} {rest : List Value} {D : va_G} {cs : CS} {A : Nat → Prop} {h : HS} {H0 : Heap} {r : Option Nat} {a : Nat}
theorem mx_get (hx : p.tables.exec = Jvm.exec) (hb : c.code = cc) (hW : ∀ w ∈ WA, w.before args s = true) {own ref C : String} {T : u_T} {N ci index : Nat} (hown : s.vm.findClass own = some m.cls) (hK : va_K D vcl (mtys cs) s) (hR : mR D cs A h H0 H locs) (er : r = some a) (ht : gT h a = 16 + ci) (hc : vcl[ci]? = some (C, T, N)) (hin : ∀ w ∈ u_ws C T N, w ∈ WA) (k kd : Nat) (hk : k < N) (hkd : (lk ci)[k]? = some kd) (hlink : Cond.fieldLink own index ref (T k).2.1 (T k).2.2.1 ∈ WA) (hsame : ∀ x, s.fieldFound? (T k).1 (T k).2.1 (T k).2.2.1 = some x → s.fieldFound? ref (T k).2.1 (T k).2.2.1 = some x) (hdg : decode cc pc = .ok (.getfield index, 3))
    (kk : W p l e R s m args below meth c H locs cells slots Q (F0 m (pc + 3) ls (fv h a (100 * ci + k) kd :: rest))) : W p l e R s m args below meth c H locs cells slots Q (F0 m pc ls (va_rf r :: rest)) := by
  subst er
  obtain ⟨⟨L, hL, hP, hD⟩, hS⟩ := hR
  obtain ⟨q0, hq⟩ := va_pl_get (X := []) (f := toE cs h) ((hL a).mpr (by rw [ht]; omega))
  rw [toE_o ht] at hq
  exact va_get hx hb hW hin hown hK hP q0 hq hc k hk (hW _ hlink) hsame (fl_at hkd) hdg kk
theorem mx_put (hx : p.tables.exec = Jvm.exec) (hb : c.code = cc) (hW : ∀ w ∈ WA, w.before args s = true) {own ref C : String} {T : u_T} {N ci index : Nat} (hown : s.vm.findClass own = some m.cls) (hK : va_K D vcl (mtys cs) s) (hR : mR D cs A h H0 H locs) (er : r = some a) (ht : gT h a = 16 + ci) (hc : vcl[ci]? = some (C, T, N)) (hin : ∀ w ∈ u_ws C T N, w ∈ WA) (ty0 : Nat → FieldType) (hty : ∀ k, k < N → parseFieldDescriptor (T k).2.2.1 = some (ty0 k)) (hnm : ∀ a, a < N → ∀ b, b < N → a ≠ b → (T a).2.1 ≠ (T b).2.1) (k kd : Nat) (hk : k < N) (hkd : (lk ci)[k]? = some kd) (hlink : Cond.fieldLink own index ref (T k).2.1 (T k).2.2.1 ∈ WA) (hsame : ∀ x, s.fieldFound? (T k).1 (T k).2.1 (T k).2.2.1 = some x → s.fieldFound? ref (T k).2.1 (T k).2.2.1 = some x) (hfin : (T k).2.2.2 = false) {v : Value} (hn : narrow (ty0 k) v = v) (hfit : fits (ty0 k) v = true) (hdg : decode cc pc = .ok (.putfield index, 3)) {h' : HS} (eT : gT h' = gT h) (e' : toE cs h' = va_up (toE cs h) a (.inr (ci, (fl h a ci).set k v)))
    (kk : ∀ (H1 : Heap) (locs1 : List Loc), mR D cs A h' H0 H1 locs1 → W p l e R s m args below meth c H1 locs1 cells slots Q (F0 m (pc + 3) ls rest)) : W p l e R s m args below meth c H locs cells slots Q (F0 m pc ls (v :: va_rf r :: rest)) := by
  subst er
  obtain ⟨⟨L, hL, hP, hD⟩, hS⟩ := hR
  have hm : a ∈ L := (hL a).mpr (by rw [ht]; omega)
  obtain ⟨q0, hq⟩ := va_pl_get (X := []) (f := toE cs h) hm
  have hq' := hq
  rw [toE_o ht] at hq'
  have hl : k < (fl h a ci).length := by
    simp only [fl, List.length_mapIdx]
    exact (List.getElem?_eq_some_iff.mp hkd).1
  exact va_put hx hb hW hin ty0 hty hnm hown hK hP hD hS q0 hq' hc k hk (hW _ hlink) hsame hfin (hty k hk) hn hfit hl hdg fun H1 locs1 hP1 hD1 hS1 => kk H1 locs1 ⟨mP.put hL hD hq hm eT e' hP1 hD1, hS1⟩
theorem mx_putF (hx : p.tables.exec = Jvm.exec) (hb : c.code = cc) (hW : ∀ w ∈ WA, w.before args s = true) {own ref C : String} {T : u_T} {N ci index : Nat} (hown : s.vm.findClass own = some m.cls) (hK : va_K D vcl (mtys cs) s) (hR : mR D cs A h H0 H locs) (er : r = some a) (ht : gT h a = 16 + ci) (hc : vcl[ci]? = some (C, T, N)) (hin : ∀ w ∈ u_ws C T N, w ∈ WA) (ty0 : Nat → FieldType) (hty : ∀ k, k < N → parseFieldDescriptor (T k).2.2.1 = some (ty0 k)) (hnm : ∀ a, a < N → ∀ b, b < N → a ≠ b → (T a).2.1 ≠ (T b).2.1) (k kd : Nat) (hk : k < N) (hkd : (lk ci)[k]? = some kd) (hlink : Cond.fieldLink own index ref (T k).2.1 (T k).2.2.1 ∈ WA) (hsame : ∀ x, s.fieldFound? (T k).1 (T k).2.1 (T k).2.2.1 = some x → s.fieldFound? ref (T k).2.1 (T k).2.2.1 = some x) (hfin : (T k).2.2.2 = true) (hin2 : meth.name = "<init>") (hdecl : (T k).1 = own) {v : Value} (hn : narrow (ty0 k) v = v) (hfit : fits (ty0 k) v = true) (hdg : decode cc pc = .ok (.putfield index, 3)) {h' : HS} (eT : gT h' = gT h) (e' : toE cs h' = va_up (toE cs h) a (.inr (ci, (fl h a ci).set k v)))
    (kk : ∀ (H1 : Heap) (locs1 : List Loc), mR D cs A h' H0 H1 locs1 → W p l e R s m args below meth c H1 locs1 cells slots Q (F0 m (pc + 3) ls rest)) : W p l e R s m args below meth c H locs cells slots Q (F0 m pc ls (v :: va_rf r :: rest)) := by
  subst er
  obtain ⟨⟨L, hL, hP, hD⟩, hS⟩ := hR
  have hm : a ∈ L := (hL a).mpr (by rw [ht]; omega)
  obtain ⟨q0, hq⟩ := va_pl_get (X := []) (f := toE cs h) hm
  have hq' := hq
  rw [toE_o ht] at hq'
  have hl : k < (fl h a ci).length := by
    simp only [fl, List.length_mapIdx]
    exact (List.getElem?_eq_some_iff.mp hkd).1
  exact va_putF hx hb hW hin ty0 hty hnm hown hK hP hD hS q0 hq' hc k hk (hW _ hlink) hsame hfin hin2 hdecl (hty k hk) hn hfit hl hdg fun H1 locs1 hP1 hD1 hS1 => kk H1 locs1 ⟨mP.put hL hD hq hm eT e' hP1 hD1, hS1⟩
theorem mx_rf_n (t : FieldType) (h : t.isReference = true) (v : Option Nat) : narrow t (va_rf v) = va_rf v ∧ fits t (va_rf v) = true := by
  cases t <;> first | (cases v <;> exact ⟨rfl, rfl⟩) | (exact absurd h (by decide))
theorem mx_z_n {x : Int32} (h : x = 0 ∨ x = 1) : narrow .boolean (.int x) = .int x ∧ fits .boolean (.int x) = true := by
  rcases h with rfl | rfl <;> exact ⟨by decide +kernel, by decide +kernel⟩
/-! arrays -/
theorem mx_iald (hx : p.tables.exec = Jvm.exec) (hb : c.code = cc) (hK : va_K D vcl (mtys cs) s) (hR : mR D cs A h H0 H locs) (er : r = some a) (ht : gT h a = 1) {i : Int32} (hin : vp_in i (gN h a)) (hdg : decode cc pc = .ok (.iaload, 1))
    (kk : W p l e R s m args below meth c H locs cells slots Q (F0 m (pc + 1) ls (.int (gA h a i.toNatClampNeg) :: rest))) : W p l e R s m args below meth c H locs cells slots Q (F0 m pc ls (.int i :: va_rf r :: rest)) := by
  subst er
  obtain ⟨⟨L, hL, hP, hD⟩, hS⟩ := hR
  obtain ⟨q0, hq⟩ := va_pl_get (X := []) (f := toE cs h) ((hL a).mpr (by rw [ht]; omega))
  rw [toE_1 ht] at hq
  exact va_iald hx hb hK hP q0 0 hq rfl hin hdg kk
theorem mx_zald (hx : p.tables.exec = Jvm.exec) (hb : c.code = cc) (hK : va_K D vcl (mtys cs) s) (hR : mR D cs A h H0 H locs) (er : r = some a) (ht : gT h a = 2) {i : Int32} (hin : vp_in i (gN h a)) (hdg : decode cc pc = .ok (.baload, 1))
    (kk : W p l e R s m args below meth c H locs cells slots Q (F0 m (pc + 1) ls (.int (gA h a i.toNatClampNeg) :: rest))) : W p l e R s m args below meth c H locs cells slots Q (F0 m pc ls (.int i :: va_rf r :: rest)) := by
  subst er
  obtain ⟨⟨L, hL, hP, hD⟩, hS⟩ := hR
  obtain ⟨q0, hq⟩ := va_pl_get (X := []) (f := toE cs h) ((hL a).mpr (by rw [ht]; omega))
  rw [toE_2 ht] at hq
  exact va_zald hx hb hK hP q0 1 hq rfl hin hdg kk
theorem mx_lald (hx : p.tables.exec = Jvm.exec) (hb : c.code = cc) (hK : va_K D vcl (mtys cs) s) (hR : mR D cs A h H0 H locs) (er : r = some a) (ht : gT h a = 3) {i : Int32} (hin : vp_in i (gN h a)) (hdg : decode cc pc = .ok (.laload, 1))
    (kk : W p l e R s m args below meth c H locs cells slots Q (F0 m (pc + 1) ls (.long (gL h a i.toNatClampNeg) :: rest))) : W p l e R s m args below meth c H locs cells slots Q (F0 m pc ls (.int i :: va_rf r :: rest)) := by
  subst er
  obtain ⟨⟨L, hL, hP, hD⟩, hS⟩ := hR
  obtain ⟨q0, hq⟩ := va_pl_get (X := []) (f := toE cs h) ((hL a).mpr (by rw [ht]; omega))
  rw [toE_3 ht] at hq
  exact va_lald hx hb hK hP q0 2 hq rfl hin hdg kk
theorem mx_oald (hx : p.tables.exec = Jvm.exec) (hb : c.code = cc) (hK : va_K D vcl (mtys cs) s) (hR : mR D cs A h H0 H locs) (er : r = some a) (ht : gT h a = 4) {i : Int32} (hin : vp_in i (gN h a)) (hdg : decode cc pc = .ok (.aaload, 1))
    (kk : W p l e R s m args below meth c H locs cells slots Q (F0 m (pc + 1) ls (va_rf (gQ h a i.toNatClampNeg) :: rest))) : W p l e R s m args below meth c H locs cells slots Q (F0 m pc ls (.int i :: va_rf r :: rest)) := by
  subst er
  obtain ⟨⟨L, hL, hP, hD⟩, hS⟩ := hR
  obtain ⟨q0, hq⟩ := va_pl_get (X := []) (f := toE cs h) ((hL a).mpr (by rw [ht]; omega))
  rw [toE_4 ht] at hq
  exact va_aldq hx hb hK hP q0 3 hq rfl hin hdg kk
theorem mx_rald (hx : p.tables.exec = Jvm.exec) (hb : c.code = cc) (hK : va_K D vcl (mtys cs) s) (hR : mR D cs A h H0 H locs) (er : r = some a) (ht : gT h a = 5) {i : Int32} (hin : vp_in i (gN h a)) (hdg : decode cc pc = .ok (.aaload, 1))
    (kk : W p l e R s m args below meth c H locs cells slots Q (F0 m (pc + 1) ls (va_rf (gQ h a i.toNatClampNeg) :: rest))) : W p l e R s m args below meth c H locs cells slots Q (F0 m pc ls (.int i :: va_rf r :: rest)) := by
  subst er
  obtain ⟨⟨L, hL, hP, hD⟩, hS⟩ := hR
  obtain ⟨q0, hq⟩ := va_pl_get (X := []) (f := toE cs h) ((hL a).mpr (by rw [ht]; omega))
  rw [toE_5 ht] at hq
  have hlt : i.toNatClampNeg < gN h a := Nat.not_le.mp fun q => hin (Or.inr q)
  exact W.aald (v := va_rf (gQ h a i.toNatClampNeg)) (ty := .array .int) hx hb (hP q0 _ hq) ((hK.2 4 (cs.2.2.2.2, .array .int) rfl).1 (gN h a) (fun j => va_rf (gQ h a j))) rfl (fun q => by cases q) (by show ¬ (i < 0 ∨ (arrV _ _ _).slots.size ≤ _); rw [arrV_size]; exact hin) (by show (arrV _ _ _).slots[_]? = _; rw [arrV_read _ _ hlt]) rfl rfl hdg kk
theorem mx_alen (hx : p.tables.exec = Jvm.exec) (hb : c.code = cc) (hK : va_K D vcl (mtys cs) s) (hR : mR D cs A h H0 H locs) (er : r = some a) (ht : gT h a ≠ 0) (ht2 : gT h a < 6) (hdg : decode cc pc = .ok (.arraylength, 1))
    (kk : W p l e R s m args below meth c H locs cells slots Q (F0 m (pc + 1) ls (.int (nI (gN h a)) :: rest))) : W p l e R s m args below meth c H locs cells slots Q (F0 m pc ls (va_rf r :: rest)) := by
  subst er
  obtain ⟨⟨L, hL, hP, hD⟩, hS⟩ := hR
  obtain ⟨q0, hq⟩ := va_pl_get (X := []) (f := toE cs h) ((hL a).mpr ht)
  rcases (show gT h a = 1 ∨ gT h a = 2 ∨ gT h a = 3 ∨ gT h a = 4 ∨ gT h a = 5 by omega) with z | z | z | z | z
  · rw [toE_1 z] at hq
    exact va_alen hx hb hK hP q0 0 hq rfl rfl hdg kk
  · rw [toE_2 z] at hq
    exact va_alen hx hb hK hP q0 1 hq rfl rfl hdg kk
  · rw [toE_3 z] at hq
    exact va_alen hx hb hK hP q0 2 hq rfl rfl hdg kk
  · rw [toE_4 z] at hq
    exact va_alen hx hb hK hP q0 3 hq rfl rfl hdg kk
  · rw [toE_5 z] at hq
    exact va_alen hx hb hK hP q0 4 hq rfl rfl hdg kk
theorem mx_iast (hx : p.tables.exec = Jvm.exec) (hb : c.code = cc) (hK : va_K D vcl (mtys cs) s) (hR : mR D cs A h H0 H locs) (er : r = some a) (ht : gT h a = 1) {i x : Int32} (hin : vp_in i (gN h a)) (hdg : decode cc pc = .ok (.iastore, 1))
    (kk : ∀ (H1 : Heap) (locs1 : List Loc), mR D cs A (sA h a i.toNatClampNeg x) H0 H1 locs1 → W p l e R s m args below meth c H1 locs1 cells slots Q (F0 m (pc + 1) ls rest)) : W p l e R s m args below meth c H locs cells slots Q (F0 m pc ls (.int x :: .int i :: va_rf r :: rest)) := by
  subst er
  obtain ⟨⟨L, hL, hP, hD⟩, hS⟩ := hR
  have hm : a ∈ L := (hL a).mpr (by rw [ht]; omega)
  obtain ⟨q0, hq⟩ := va_pl_get (X := []) (f := toE cs h) hm
  have hq' := hq
  rw [toE_1 ht] at hq'
  exact va_iast hx hb hK hP hD hS q0 0 hq' rfl hin hdg fun H1 locs1 hP1 hD1 hS1 => kk H1 locs1 ⟨mP.put hL hD hq hm rfl (toE_wA (by rw [toE_1 (by exact ht), gA_wA]; rfl)) hP1 hD1, hS1⟩
theorem mx_zast (hx : p.tables.exec = Jvm.exec) (hb : c.code = cc) (hK : va_K D vcl (mtys cs) s) (hR : mR D cs A h H0 H locs) (er : r = some a) (ht : gT h a = 2) {i x : Int32} (hz : x = 0 ∨ x = 1) (hin : vp_in i (gN h a)) (hdg : decode cc pc = .ok (.bastore, 1))
    (kk : ∀ (H1 : Heap) (locs1 : List Loc), mR D cs A (sA h a i.toNatClampNeg x) H0 H1 locs1 → W p l e R s m args below meth c H1 locs1 cells slots Q (F0 m (pc + 1) ls rest)) : W p l e R s m args below meth c H locs cells slots Q (F0 m pc ls (.int x :: .int i :: va_rf r :: rest)) := by
  subst er
  obtain ⟨⟨L, hL, hP, hD⟩, hS⟩ := hR
  have hm : a ∈ L := (hL a).mpr (by rw [ht]; omega)
  obtain ⟨q0, hq⟩ := va_pl_get (X := []) (f := toE cs h) hm
  have hq' := hq
  rw [toE_2 ht] at hq'
  have hv : vp_nar .boolean x = x := by simp only [vp_nar, (mx_z_n hz).1]
  refine va_zast hx hb hK hP hD hS q0 1 hq' rfl hin hdg fun H1 locs1 hP1 hD1 hS1 => kk H1 locs1 ⟨mP.put hL hD hq hm rfl (toE_wA (by rw [toE_2 (by exact ht), gA_wA]; try rfl)) (by rw [hv] at hP1; exact hP1) (by rw [hv] at hD1; exact hD1), hS1⟩
theorem mx_last (hx : p.tables.exec = Jvm.exec) (hb : c.code = cc) (hK : va_K D vcl (mtys cs) s) (hR : mR D cs A h H0 H locs) (er : r = some a) (ht : gT h a = 3) {i : Int32} {x : Int64} (hin : vp_in i (gN h a)) (hdg : decode cc pc = .ok (.lastore, 1))
    (kk : ∀ (H1 : Heap) (locs1 : List Loc), mR D cs A (sL h a i.toNatClampNeg x) H0 H1 locs1 → W p l e R s m args below meth c H1 locs1 cells slots Q (F0 m (pc + 1) ls rest)) : W p l e R s m args below meth c H locs cells slots Q (F0 m pc ls (.long x :: .int i :: va_rf r :: rest)) := by
  subst er
  obtain ⟨⟨L, hL, hP, hD⟩, hS⟩ := hR
  have hm : a ∈ L := (hL a).mpr (by rw [ht]; omega)
  obtain ⟨q0, hq⟩ := va_pl_get (X := []) (f := toE cs h) hm
  have hq' := hq
  rw [toE_3 ht] at hq'
  exact va_last hx hb hK hP hD hS q0 2 hq' rfl hin hdg fun H1 locs1 hP1 hD1 hS1 => kk H1 locs1 ⟨mP.put hL hD hq hm rfl (toE_wL (by rw [toE_3 (by exact ht), gL_wL]; rfl)) hP1 hD1, hS1⟩
/-! new objects and arrays -/
theorem mx_new (hx : p.tables.exec = Jvm.exec) (hb : c.code = cc) (hW : ∀ w ∈ WA, w.before args s = true) {own C : String} {T : u_T} {N ci index : Nat} (hown : s.vm.findClass own = some m.cls) (hK : va_K D vcl (mtys cs) s) (hR : mR D cs A h H0 H locs) (hA : ∀ q, H0.size ≤ q → A q) (hc : vcl[ci]? = some (C, T, N)) (hin : ∀ w ∈ u_ws C T N, w ∈ WA) (ty : Nat → FieldType) (hty : ∀ k, k < N → parseFieldDescriptor (T k).2.2.1 = some (ty k)) (hcl : Cond.classLink own index C ∈ WA) (hinst : Cond.instantiable C N ∈ WA) (hini : Cond.initialized C ∈ WA) (hfs : ∀ (q j : Nat), j < N → defaultValue (ty j) = vp_V (fl (nH h q (16 + ci) 0) q ci) j) (hcells : cells + 1 ≤ R.cells) (hslots : slots + N ≤ R.slots) (hdg : decode cc pc = .ok (.new index, 3))
    (kk : ∀ (q : Nat) (H1 : Heap), gT h q = 0 → mR D cs A (nH h q (16 + ci) 0) H0 H1 locs → W p l e R s m args below meth c H1 locs (cells + 1) (slots + N) Q (F0 m (pc + 3) ls (va_rf (some q) :: rest))) : W p l e R s m args below meth c H locs cells slots Q (F0 m pc ls rest) := by
  obtain ⟨⟨L, hL, hP, hD⟩, hS⟩ := hR
  refine va_new (fs := fl (nH h H.size (16 + ci) 0) H.size ci) hx hb hW hin ty hty hown (hW _ hcl) (hW _ hinst) (hW _ hini) hK hP hD hS hA hc (fun j hj => hfs H.size j hj) hcells hslots hdg fun q H1 hP1 hD1 hS1 => ?_
  have hfl : fl (nH h H.size (16 + ci) 0) H.size ci = fl (nH h q (16 + ci) 0) q ci := by
    simp only [fl, fv]
    simp [gI, gJ, gR, nH, va_up]
  rw [hfl] at hP1 hD1
  obtain ⟨h1, h2⟩ := mP.new (t := 16 + ci) (n := 0) hL (by omega) (toE_o (gT_nH h q (16 + ci) 0)) hP1 hD1
  exact kk q H1 h2 ⟨h1, hS1⟩
theorem mx_arr_i (hx : p.tables.exec = Jvm.exec) (hb : c.code = cc) (hW : ∀ w ∈ WA, w.before args s = true) (hK : va_K D vcl (mtys cs) s) (hR : mR D cs A h H0 H locs) (hA : ∀ q, H0.size ≤ q → A q) (harr : Cond.arrayClass .int ∈ WA) {n : Int32} {N' : Nat} (hn : ¬ n < 0) (hN : n.toNatClampNeg = N') (hbytes : N' ≤ 100000) (hcells : cells + 1 ≤ R.cells) (hslots : slots + N' ≤ R.slots) (hdg : decode cc pc = .ok (.newarray .int, 2))
    (kk : ∀ (q : Nat) (H1 : Heap), gT h q = 0 → mR D cs A (nH h q 1 N') H0 H1 locs → W p l e R s m args below meth c H1 locs (cells + 1) (slots + N') Q (F0 m (pc + 2) ls (va_rf (some q) :: rest))) : W p l e R s m args below meth c H locs cells slots Q (F0 m pc ls (.int n :: rest)) := by
  obtain ⟨⟨L, hL, hP, hD⟩, hS⟩ := hR
  refine va_newa (atype := .int) (ty := .int) (a0 := (N', .inl (fun _ => 0))) hx hb (hW _ harr) rfl hK hP hD hS hA (fun cA => rfl) hn hN (by simp only [componentBytes]; omega) hcells hslots hdg fun q cA H1 hK1 hP1 hD1 hS1 => ?_
  have e1 : cA = cs.1 := by
    have a1 : s.vm.findClass ("[" ++ FieldType.int.toString) = some cA := (hK1.2 5 (cA, .int) rfl).2
    have a2 : s.vm.findClass ("[" ++ FieldType.int.toString) = some cs.1 := (hK.2 0 (cs.1, .int) rfl).2
    exact Option.some.inj (a1.symm.trans a2)
  subst e1
  obtain ⟨h1, h2⟩ := mP.new (t := 1) (n := N') hL (by omega) (by rw [toE_1 (gT_nH h q 1 N')]; simp [gN, gA, nH, va_up]) hP1 hD1
  exact kk q H1 h2 ⟨h1, hS1⟩
theorem mx_arr_z (hx : p.tables.exec = Jvm.exec) (hb : c.code = cc) (hW : ∀ w ∈ WA, w.before args s = true) (hK : va_K D vcl (mtys cs) s) (hR : mR D cs A h H0 H locs) (hA : ∀ q, H0.size ≤ q → A q) (harr : Cond.arrayClass .boolean ∈ WA) {n : Int32} {N' : Nat} (hn : ¬ n < 0) (hN : n.toNatClampNeg = N') (hbytes : N' ≤ 100000) (hcells : cells + 1 ≤ R.cells) (hslots : slots + N' ≤ R.slots) (hdg : decode cc pc = .ok (.newarray .boolean, 2))
    (kk : ∀ (q : Nat) (H1 : Heap), gT h q = 0 → mR D cs A (nH h q 2 N') H0 H1 locs → W p l e R s m args below meth c H1 locs (cells + 1) (slots + N') Q (F0 m (pc + 2) ls (va_rf (some q) :: rest))) : W p l e R s m args below meth c H locs cells slots Q (F0 m pc ls (.int n :: rest)) := by
  obtain ⟨⟨L, hL, hP, hD⟩, hS⟩ := hR
  refine va_newa (atype := .boolean) (ty := .boolean) (a0 := (N', .inl (fun _ => 0))) hx hb (hW _ harr) rfl hK hP hD hS hA (fun cA => rfl) hn hN (by simp only [componentBytes]; omega) hcells hslots hdg fun q cA H1 hK1 hP1 hD1 hS1 => ?_
  have e1 : cA = cs.2.1 := by
    have a1 : s.vm.findClass ("[" ++ FieldType.boolean.toString) = some cA := (hK1.2 5 (cA, .boolean) rfl).2
    have a2 : s.vm.findClass ("[" ++ FieldType.boolean.toString) = some cs.2.1 := (hK.2 1 (cs.2.1, .boolean) rfl).2
    exact Option.some.inj (a1.symm.trans a2)
  subst e1
  obtain ⟨h1, h2⟩ := mP.new (t := 2) (n := N') hL (by omega) (by rw [toE_2 (gT_nH h q 2 N')]; simp [gN, gA, nH, va_up]) hP1 hD1
  exact kk q H1 h2 ⟨h1, hS1⟩
theorem mx_arr_l (hx : p.tables.exec = Jvm.exec) (hb : c.code = cc) (hW : ∀ w ∈ WA, w.before args s = true) (hK : va_K D vcl (mtys cs) s) (hR : mR D cs A h H0 H locs) (hA : ∀ q, H0.size ≤ q → A q) (harr : Cond.arrayClass .long ∈ WA) {n : Int32} {N' : Nat} (hn : ¬ n < 0) (hN : n.toNatClampNeg = N') (hbytes : N' ≤ 100000) (hcells : cells + 1 ≤ R.cells) (hslots : slots + N' ≤ R.slots) (hdg : decode cc pc = .ok (.newarray .long, 2))
    (kk : ∀ (q : Nat) (H1 : Heap), gT h q = 0 → mR D cs A (nH h q 3 N') H0 H1 locs → W p l e R s m args below meth c H1 locs (cells + 1) (slots + N') Q (F0 m (pc + 2) ls (va_rf (some q) :: rest))) : W p l e R s m args below meth c H locs cells slots Q (F0 m pc ls (.int n :: rest)) := by
  obtain ⟨⟨L, hL, hP, hD⟩, hS⟩ := hR
  refine va_newa (atype := .long) (ty := .long) (a0 := (N', .inr (.inl (fun _ => 0)))) hx hb (hW _ harr) rfl hK hP hD hS hA (fun cA => rfl) hn hN (by simp only [componentBytes]; omega) hcells hslots hdg fun q cA H1 hK1 hP1 hD1 hS1 => ?_
  have e1 : cA = cs.2.2.1 := by
    have a1 : s.vm.findClass ("[" ++ FieldType.long.toString) = some cA := (hK1.2 5 (cA, .long) rfl).2
    have a2 : s.vm.findClass ("[" ++ FieldType.long.toString) = some cs.2.2.1 := (hK.2 2 (cs.2.2.1, .long) rfl).2
    exact Option.some.inj (a1.symm.trans a2)
  subst e1
  obtain ⟨h1, h2⟩ := mP.new (t := 3) (n := N') hL (by omega) (by rw [toE_3 (gT_nH h q 3 N')]; simp [gN, gL, nH, va_up]) hP1 hD1
  exact kk q H1 h2 ⟨h1, hS1⟩
/-! references in locals -/
theorem mx_aload_n (hx : p.tables.exec = Jvm.exec) (hb : c.code = cc) {k : Fin 4} {i : Nat} (hdg : decode cc pc = .ok (.aload_n k, 1)) (hi : (k : Nat) = i) (hl : ls[i]? = some (.val (va_rf r)))
    (kk : W p l e R s m args below meth c H locs cells slots Q (F0 m (pc + 1) ls (va_rf r :: rest))) : W p l e R s m args below meth c H locs cells slots Q (F0 m pc ls rest) := by
  cases r with
  | none => exact lv_aload_nN hx hb hdg hi hl kk
  | some a => exact lv_aload_n hx hb hdg hi hl kk
theorem mx_aload (hx : p.tables.exec = Jvm.exec) (hb : c.code = cc) {i : Nat} (hdg : decode cc pc = .ok (.aload i, 2)) (hl : ls[i]? = some (.val (va_rf r)))
    (kk : W p l e R s m args below meth c H locs cells slots Q (F0 m (pc + 2) ls (va_rf r :: rest))) : W p l e R s m args below meth c H locs cells slots Q (F0 m pc ls rest) := by
  cases r with
  | none => exact lv_aloadN hx hb hdg hl kk
  | some a => exact lv_aload hx hb hdg hl kk
theorem mx_rf_cat (r : Option Nat) : (va_rf r).category = 1 := by cases r <;> rfl
theorem mx_astore_n (hx : p.tables.exec = Jvm.exec) (hb : c.code = cc) {k : Fin 4} {i nL : Nat} {lv lv' : List (Nat × Value)} (hdg : decode cc pc = .ok (.astore_n k, 1)) (hi : (k : Nat) = i) (hl : lv_has ls nL lv) (hn : i < nL) (he : (i, va_rf r) :: lv.filter (fun q => !(q.1 == i) && !(q.1 + 1 == i && q.2.category == 2)) = lv')
    (kk : ∀ ls' : Array Slot, lv_has ls' nL lv' → W p l e R s m args below meth c H locs cells slots Q (F0 m (pc + 1) ls' rest)) : W p l e R s m args below meth c H locs cells slots Q (F0 m pc ls (va_rf r :: rest)) := by
  cases r with
  | none => exact lv_astore_nN hx hb hdg hi hl hn he kk
  | some a => exact lv_astore_n hx hb hdg hi hl hn he kk
theorem mx_astore (hx : p.tables.exec = Jvm.exec) (hb : c.code = cc) {i nL : Nat} {lv lv' : List (Nat × Value)} (hdg : decode cc pc = .ok (.astore i, 2)) (hl : lv_has ls nL lv) (hn : i < nL) (he : (i, va_rf r) :: lv.filter (fun q => !(q.1 == i) && !(q.1 + 1 == i && q.2.category == 2)) = lv')
    (kk : ∀ ls' : Array Slot, lv_has ls' nL lv' → W p l e R s m args below meth c H locs cells slots Q (F0 m (pc + 2) ls' rest)) : W p l e R s m args below meth c H locs cells slots Q (F0 m pc ls (va_rf r :: rest)) := by
  cases r with
  | none => exact lv_astoreN hx hb hdg hl hn he kk
  | some a => exact lv_astore hx hb hdg hl hn he kk
theorem mx_ifnull (hx : p.tables.exec = Jvm.exec) (hb : c.code = cc) {off : Int} {tgt : Nat} (hdg : decode cc pc = .ok (.ifnull off, 3)) (ht : (pc : Int) + off = (tgt : Int)) (kt : r = none → W p l e R s m args below meth c H locs cells slots Q (F0 m tgt ls rest)) (kf : ¬ r = none → W p l e R s m args below meth c H locs cells slots Q (F0 m (pc + 3) ls rest)) : W p l e R s m args below meth c H locs cells slots Q (F0 m pc ls (va_rf r :: rest)) := by
  cases r with
  | none => exact lv_ifnullN hx hb hdg ht (kt rfl)
  | some a => exact lv_ifnull hx hb hdg (kf (fun h => by cases h))
theorem mx_ifnonnull (hx : p.tables.exec = Jvm.exec) (hb : c.code = cc) {off : Int} {tgt : Nat} (hdg : decode cc pc = .ok (.ifnonnull off, 3)) (ht : (pc : Int) + off = (tgt : Int)) (kt : ¬ r = none → W p l e R s m args below meth c H locs cells slots Q (F0 m tgt ls rest)) (kf : r = none → W p l e R s m args below meth c H locs cells slots Q (F0 m (pc + 3) ls rest)) : W p l e R s m args below meth c H locs cells slots Q (F0 m pc ls (va_rf r :: rest)) := by
  cases r with
  | none => exact lv_ifnonnullN hx hb hdg (kf rfl)
  | some a => exact lv_ifnonnull hx hb hdg ht (kt (fun h => by cases h))
theorem mx_null (hx : p.tables.exec = Jvm.exec) (hb : c.code = cc) (hdg : decode cc pc = .ok (.aconst_null, 1)) (kk : W p l e R s m args below meth c H locs cells slots Q (F0 m (pc + 1) ls (va_rf none :: rest))) : W p l e R s m args below meth c H locs cells slots Q (F0 m pc ls rest) := lv_null hx hb hdg kk
/-- a cast of null, or of an object of just that class -/
theorem mx_cast (hx : p.tables.exec = Jvm.exec) (hb : c.code = cc) (hW : ∀ w ∈ WA, w.before args s = true) {own C : String} {T : u_T} {N ci index : Nat} (hown : s.vm.findClass own = some m.cls) (hK : va_K D vcl (mtys cs) s) (hR : mR D cs A h H0 H locs) (hc : vcl[ci]? = some (C, T, N)) (hlink : Cond.classLink own index C ∈ WA) (hr : ∀ a, r = some a → gT h a = 16 + ci) (hdg : decode cc pc = .ok (.checkcast index, 3))
    (kk : W p l e R s m args below meth c H locs cells slots Q (F0 m (pc + 3) ls (va_rf r :: rest))) : W p l e R s m args below meth c H locs cells slots Q (F0 m pc ls (va_rf r :: rest)) := by
  cases r with
  | none => exact lv_castN hx hb hdg kk
  | some a =>
    have ht := hr a rfl
    obtain ⟨⟨L, hL, hP, hD⟩, hS⟩ := hR
    obtain ⟨q0, hq⟩ := va_pl_get (X := []) (f := toE cs h) ((hL a).mpr (by rw [ht]; omega))
    rw [toE_o ht] at hq
    exact va_castS hx hb hown (hW _ hlink) (hK.1 ci _ hc).2 (va_recv hK hP hc hq) hdg kk
end MXA
