/-! WHAT IS JOINED ON ALL SHEETS -/
def jl (n : Nat) : Nat → Nat := fun r => if r = 0 then 1060 else if r ≤ n then 900 else 0
def JJ (vx : Nat) (A : Nat → Nat → Nat) (B : Nat → Nat × Nat) (h : HS) (n : Nat) (lj : Nat → Nat) : Prop := gR h 10 vx = some (A 13 0) ∧ (B vx = (0, 0) ∧ B (A 13 0) = (13, 0) ∧ B (A 13 1) = (13, 1) ∧ ∀ r, r < 17 → B (A 14 r) = (14, r)) ∧ JF h (A 13 0) (A 13 1) (A 14) (jl n) 17 lj
def XJ (Z : Nat → Nat) (vx : Nat) (A : Nat → Nat → Nat) (B : Nat → Nat × Nat) (h : HS) (d : DS) (lt : Nat → Nat) (U : Nat → Nat → Prop) : Prop := CD Z vx A B h d ∧ TJ vx A B h lt ∧ ∃ lj, JJ vx A B h (nS d) lj ∧ LD lj U
abbrev sm2 (B : Nat → Nat × Nat) : HS → HS → Prop := sm (fun a => (B a).1 ≠ 12 ∧ (B a).1 ≠ 14)
section SPR
variable {Z : Nat → Nat} {vx : Nat} {A : Nat → Nat → Nat} {B : Nat → Nat × Nat} {h : HS} {d : DS} {U : Nat → Nat → Prop} {lt : Nat → Nat}
theorem JJ.frame {h' : HS} {n : Nat} {lj : Nat → Nat} (T : JJ vx A B h n lj) (c : ∀ a, ((B a).1 = 0 ∨ (B a).1 = 13 ∨ (B a).1 = 14) → ce h h' a) : JJ vx A B h' n lj := by
  obtain ⟨t1, ⟨t0, t2, t3, t4⟩, t5⟩ := T
  refine ⟨by rw [(c vx (Or.inl (by rw [t0]))).R]; exact t1, ⟨t0, t2, t3, t4⟩, t5.frame fun a ha => ?_⟩
  rcases ha with rfl | rfl | ⟨r, hr, rfl⟩
  · exact c _ (Or.inr (Or.inl (by rw [t2])))
  · exact c _ (Or.inr (Or.inl (by rw [t3])))
  · exact c _ (Or.inr (Or.inr (by rw [t4 r hr])))
theorem XJ.eq {T : Nat → Nat → Prop} (X : XJ Z vx A B h d lt U) (e : T = U) : XJ Z vx A B h d lt T := by rw [e]; exact X
theorem XJ.mo {T : Nat → Nat → Prop} (X : XJ Z vx A B h d lt U) (h1 : ∀ x y, U x y → EG T x y) (h2 : ∀ x y, T x y → EG U x y) : XJ Z vx A B h d lt T := by
  obtain ⟨C, T1, lj, J, L⟩ := X
  exact ⟨C, T1, lj, J, L.mo h1 h2⟩
theorem XJ.up (X : XJ Z vx A B h d lt U) : gR h 10 vx = some (A 13 0) ∧ gT h (A 13 0) = 18 := by
  obtain ⟨C, T1, lj, J, L⟩ := X
  exact ⟨J.1, J.2.2.1.1⟩
theorem XJ.ut (X : XJ Z vx A B h d lt U) : gR h 9 vx = some (A 11 0) ∧ gT h (A 11 0) = 18 := ⟨X.2.1.1, X.2.1.2.2.1.1⟩
theorem XJ.join {post : HS → Prop} (X : XJ Z vx A B h d lt U) {a b : Nat} (ha : vl (jl (nS d)) 17 a) (hb : vl (jl (nS d)) 17 b) (kk : ∀ h', XJ Z vx A B h' d lt (fun x y => U x y ∨ (x = a ∧ y = b)) → sm2 B h h' → post h') : wp_Joins_join Z post h (A 13 0) (nI a) (nI b) := by
  obtain ⟨C, T, lj, J, L⟩ := X
  refine sp_join J.2.2 ha hb fun h' J' s => ?_
  have s' : sm (fun a => (B a).1 ≠ 14) h h' := sm_of s fun a ha r hr e => by
    rw [e, J.2.1.2.2.2 r hr] at ha; exact ha rfl
  refine kk h' ⟨C.frame fun a ha => s' a (by intro z; omega), T.frame fun a ha => s' a (by intro z; omega), _, ⟨?_, J.2.1, J'⟩, L.join a b⟩ (sm_of s' fun a ha => ha.2)
  rw [(s' vx (by show (B vx).1 ≠ 14; rw [J.2.1.1]; decide)).R]; exact J.1
theorem XJ.troot {post : Int32 → HS → Prop} (X : XJ Z vx A B h d lt U) {a : Nat} (ha : a < 220) (kk : ∀ h', XJ Z vx A B h' d lt U → sm2 B h h' → post (nI (lt a)) h') : wp_Joins_root Z post h (A 11 0) (nI a) := by
  obtain ⟨C, T, lj, J, L⟩ := X
  refine sp_root T.2.2 (vl_tl ha) fun h' J' s => ?_
  have s' : sm12 B h h' := sm_of s fun a ha r hr e => by
    have : r = 0 := by omega
    subst this
    rw [e, T.2.1.2.2.2] at ha; exact ha rfl
  refine kk h' ⟨C.frame fun a ha => s' a (by intro z; omega), ⟨?_, T.2.1, J'⟩, lj, J.frame fun a ha => s' a (by intro z; omega), L⟩ (sm_of s' fun a ha => ha.1)
  rw [(s' vx (by show (B vx).1 ≠ 12; rw [T.2.1.1]; decide)).R]; exact T.1
theorem vl_nm {n s k : Nat} (hs : s < n) (hn : n ≤ 16) (hk : k < 1000) : vl (jl n) 17 (cnm s k) := by
  unfold cnm vl
  split
  · rw [show (60 + k) / 2048 = 0 from by omega, show (60 + k) % 2048 = 60 + k from by omega]
    exact ⟨by omega, by show 60 + k < 1060; omega⟩
  · rw [show (2048 * (1 + s) + k) / 2048 = 1 + s from by omega, show (2048 * (1 + s) + k) % 2048 = k from by omega]
    refine ⟨by omega, ?_⟩
    unfold jl
    rw [if_neg (by omega), if_pos (by omega)]; omega
theorem vl_cnd (hd : WF d) {t a : Nat} (ht : t < nS d) (ha : isp d a) : vl (jl (nS d)) 17 (cnd d t a) := by
  have hS := hd.1.1
  have h5 := hd.1.2.2.2.2.1
  unfold cnd
  split
  · have := cp_lt hd ht
    rw [show vl (jl (nS d)) 17 (16 * a + cp d t) = ((16 * a + cp d t) / 2048 < 17 ∧ (16 * a + cp d t) % 2048 < jl (nS d) ((16 * a + cp d t) / 2048)) from rfl, show (16 * a + cp d t) / 2048 = 0 from by omega, show (16 * a + cp d t) % 2048 = 16 * a + cp d t from by omega]
    exact ⟨by omega, by show 16 * a + cp d t < 1060; omega⟩
  · exact vl_nm ht hS (hd.2.2.2.2.1 (a - 60) (by rcases ha with w | w <;> omega)).2.2
theorem sp_nodeOn {post : Int32 → HS → Prop} (hd : WF d) (C : CD Z vx A B h d) {t a : Nat} (ht : t < nS d) (ha : isp d a) (kk : post (nI (cnd d t a)) h) : wp_NJ_nodeOn Z post h vx (some (A 3 t)) (nI a) := by
  have hS := hd.1.1
  have hL := hd.1.2.2.2.1
  have h5 := hd.1.2.2.2.2.1
  have a120 := isp_lt hd ha
  obtain ⟨o1, o2, o3, o4, o5, o6⟩ := C.S ht
  unfold wp_NJ_nodeOn
  unfold cnd at kk
  refine pk_le 60 a (fun z => ?_) (fun z => ?_)
  · rw [if_neg (by omega)] at kk
    rintro y rfl
    rw [show (60 : Int32) = nI 60 from rfl, pk_sub z]
    have hl : a - 60 < nL d := by rcases ha with w | w <;> omega
    refine ⟨C.x, A 1 3, C.p (by omega), C.lT (by omega), sp_size C.la (pk_le (nL d) (a - 60) (fun w => by omega) (fun w => ⟨A 3 t, rfl, o1, C.x, A 1 3, C.p (by omega), C.lT (by omega), sp_get C.la hl ⟨cst (C.L hl).1, A 6 (a - 60), rfl, (C.L hl).1, ?_⟩⟩))⟩
    rw [o2, (C.L hl).2.2.2.2.1]
    exact sp_nameNode (by omega) (hd.2.2.2.2.1 _ hl).2.2 kk
  · rw [if_pos (by omega)] at kk
    refine ⟨A 3 t, rfl, o1, ?_⟩
    rw [o5]
    unfold wp_NJ_pinNode
    rw [show (16 : Int32) = nI 16 from rfl, pk_mul, nI_add, Nat.mul_comm]
    exact kk
def Psp (d : DS) (lt : Nat → Nat) (t off i x y : Nat) : Prop := sSh d (off + i) = bas d t ∧ x = cnd d t (off + i) ∧ y = cnd d t (lt (off + i))
theorem sp_spreadSpots {post : HS → Prop} (hd : WF d) (hlt : ∀ a, isp d a → isp d (lt a)) (X : XJ Z vx A B h d lt U) {t k n off : Nat} (ht : t < nS d) (hk : slK d k n off) (kk : ∀ h', XJ Z vx A B h' d lt (acc U (Psp d lt t off) n) → sm2 B h h' → post h') : wp_NJ_spreadSpots Z post h vx (some (A 3 t)) (some (A 1 k)) := by
  have hS := hd.1.1
  unfold wp_NJ_spreadSpots
  refine lp_inv (fun q => ∃ i, q.1 = some (A 3 t) ∧ q.2.1 = some (A 1 k) ∧ q.2.2.1 = nI i ∧ i ≤ n ∧ XJ Z vx A B q.2.2.2 d lt (acc U (Psp d lt t off) i) ∧ sm2 B h q.2.2.2) (fun q => n - q.2.2.1.toNatClampNeg) ?_ _ ⟨0, rfl, rfl, rfl, by omega, X.eq (acc_0 _ _), sm_rf⟩
  rintro ⟨x1, x2, x3, h1⟩ K ⟨i, e1, e2, e3, hi, X1, s1⟩ hK
  dsimp only at e1 e2 e3 X1 s1
  subst e1 e2 e3
  have C := X1.1
  obtain ⟨k8, n60, Ln, Is⟩ := C.sl hd hk
  have next : ∀ h2, XJ Z vx A B h2 d lt (acc U (Psp d lt t off) (i + 1)) → sm2 B h h2 → i < n → wj_NJ_spreadSpots_66 Z post K vx (some (A 3 t)) (some (A 1 k)) (nI i) h2 := by
    intro h2 X2 s2 hi
    rintro y rfl
    refine hK _ ⟨i + 1, rfl, rfl, nI_1 i, by omega, X2, s2⟩ ?_
    dsimp only
    rw [nI_1, jr_cl (by omega), jr_cl (by omega)]; omega
  unfold wb_NJ_spreadSpots_2
  dsimp only
  refine ⟨A 1 k, rfl, C.lT k8, sp_size Ln (pk_le n i (fun z => kk h1 (X1.eq (by rw [show i = n from by omega])) s1) (fun z => ⟨A 1 k, rfl, C.lT k8, sp_get Ln z ?_⟩))⟩
  obtain ⟨q, q5, q6⟩ := C.pS hd (Is i z)
  have i120 := isp_lt hd (Is i z)
  have sl2 := sSh_lt hd (Is i z)
  have bt := (hd.2.1 t ht).1
  obtain ⟨o1, o2, o3, o4, o5, o6⟩ := C.S ht
  refine ⟨cst q.1, sAd A (off + i), rfl, q.1, A 3 t, rfl, o1, ?_⟩
  rw [q.2.1, o4]
  refine ⟨fun c => next h1 (X1.eq (acc_n fun x y p => c (by rw [p.1]))) s1 z, fun c => ⟨C.x, sAd A (off + i), rfl, q.1, C.x, ?_⟩⟩
  have c' : sSh d (off + i) = bas d t := (nI_eq (by omega) (by omega)).mp c
  rw [q5]
  refine sp_nodeOn hd C ht (Is i z) ⟨C.x, sAd A (off + i), rfl, q.1, A 11 0, X1.ut.1, X1.ut.2, ?_⟩
  rw [q5]
  refine X1.troot (by omega) fun h2 X2 s2 => ⟨X2.1.x, sp_nodeOn hd X2.1 ht (hlt _ (Is i z)) ⟨A 13 0, X1.up.1, X2.up.2, X2.join (vl_cnd hd ht (Is i z)) (vl_cnd hd ht (hlt _ (Is i z))) fun h3 X3 s3 => next h3 (X3.eq ?_) (sm_tr s1 (sm_tr s2 s3)) z⟩⟩
  exact acc_1 fun x y => ⟨fun p => p.2, fun p => ⟨c', p⟩⟩
/-- what is spread on the sheet t -/
def PT (d : DS) (lt : Nat → Nat) (t x y : Nat) : Prop := ∃ a, isp d a ∧ sSh d a = bas d t ∧ x = cnd d t a ∧ y = cnd d t (lt a)
theorem sp_spreadOn {post : HS → Prop} (hd : WF d) (hlt : ∀ a, isp d a → isp d (lt a)) (X : XJ Z vx A B h d lt U) {t : Nat} (ht : t < nS d) (kk : ∀ h', XJ Z vx A B h' d lt (fun x y => U x y ∨ PT d lt t x y) → sm2 B h h' → post h') : wp_NJ_spreadOn Z post h vx (some (A 3 t)) := by
  refine ⟨X.1.x, X.1.x, ?_⟩
  rw [X.1.p (k := 5) (by omega)]
  refine sp_spreadSpots hd hlt X ht (Or.inr ⟨rfl, rfl, rfl⟩) fun h1 X1 s1 => ⟨X1.1.x, X1.1.x, ?_⟩
  rw [X1.1.p (k := 3) (by omega)]
  refine sp_spreadSpots hd hlt X1 ht (Or.inl ⟨rfl, rfl, rfl⟩) fun h2 X2 s2 => kk h2 (X2.eq ?_) (sm_tr s1 s2)
  funext x y
  refine propext ⟨fun z => ?_, fun z => ?_⟩
  · rcases z with z | ⟨a, ha, z1, z2, z3⟩
    · exact Or.inl (Or.inl z)
    · rcases ha with w | w
      · exact Or.inl (Or.inr ⟨a, w, by unfold Psp; rw [Nat.zero_add]; exact ⟨z1, z2, z3⟩⟩)
      · exact Or.inr ⟨a - 60, by omega, by unfold Psp; rw [show 60 + (a - 60) = a from by omega]; exact ⟨z1, z2, z3⟩⟩
  · rcases z with (z | ⟨a, ha, z⟩) | ⟨a, ha, z⟩
    · exact Or.inl z
    · unfold Psp at z
      rw [Nat.zero_add] at z
      exact Or.inr ⟨a, Or.inl ha, z⟩
    · exact Or.inr ⟨60 + a, Or.inr ⟨by omega, by omega⟩, z⟩
theorem sp_spreadOver {post : HS → Prop} (hd : WF d) (hlt : ∀ a, isp d a → isp d (lt a)) (X : XJ Z vx A B h d lt U) {s : Nat} (hs : s < 2 ^ 31) (kk : ∀ h', XJ Z vx A B h' d lt (fun x y => U x y ∨ ∃ t, t < nS d ∧ bas d t = s ∧ PT d lt t x y) → sm2 B h h' → post h') : wp_NJ_spreadOver Z post h vx (nI s) := by
  have hS := hd.1.1
  unfold wp_NJ_spreadOver
  refine lp_inv (fun q => ∃ i, q.1 = nI s ∧ q.2.1 = nI i ∧ i ≤ nS d ∧ XJ Z vx A B q.2.2 d lt (acc U (fun t x y => bas d t = s ∧ PT d lt t x y) i) ∧ sm2 B h q.2.2) (fun q => nS d - q.2.1.toNatClampNeg) ?_ _ ⟨0, rfl, rfl, by omega, X.eq (acc_0 _ _), sm_rf⟩
  rintro ⟨x1, x2, h1⟩ K ⟨i, e1, e2, hi, X1, s1⟩ hK
  dsimp only at e1 e2 X1 s1
  subst e1 e2
  have C := X1.1
  have next : ∀ h2, XJ Z vx A B h2 d lt (acc U (fun t x y => bas d t = s ∧ PT d lt t x y) (i + 1)) → sm2 B h h2 → i < nS d → wj_NJ_spreadOver_46 Z post K vx (nI s) (nI i) h2 := by
    intro h2 X2 s2 hi
    rintro y rfl
    refine hK _ ⟨i + 1, rfl, nI_1 i, by omega, X2, s2⟩ ?_
    dsimp only
    rw [nI_1, jr_cl (by omega), jr_cl (by omega)]; omega
  unfold wb_NJ_spreadOver_2
  dsimp only
  refine ⟨C.x, A 1 0, C.p (by omega), C.lT (by omega), sp_size C.sh (pk_le (nS d) i (fun z => kk h1 (X1.eq ?_) s1) (fun z => ⟨C.x, A 1 0, C.p (by omega), C.lT (by omega), sp_get C.sh z ?_⟩))⟩
  · rw [show i = nS d from by omega]; rfl
  have bt := (hd.2.1 i z).1
  obtain ⟨o1, o2, o3, o4, o5, o6⟩ := C.S z
  refine ⟨cst o1, A 3 i, rfl, o1, ?_⟩
  rw [o4]
  refine ⟨fun c => next h1 (X1.eq (acc_n fun x y p => c (by rw [p.1]))) s1 z, fun c => ⟨C.x, A 1 0, C.p (by omega), C.lT (by omega), sp_get C.sh z ⟨cst o1, C.x, sp_spreadOn hd hlt X1 z fun h2 X2 s2 => next h2 (X2.eq ?_) (sm_tr s1 s2) z⟩⟩⟩
  have c' : bas d i = s := (nI_eq (by omega) (by omega)).mp c
  rw [acc_s]
  funext x y
  refine propext ⟨fun z => ?_, fun z => ?_⟩
  · rcases z with z | z
    · exact Or.inl z
    · exact Or.inr z.2
  · rcases z with z | z
    · exact Or.inl z
    · exact Or.inr ⟨c', z⟩
/-! buses -/
theorem sp_blen {post : Int32 → HS → Prop} (hd : WF d) (C : CD Z vx A B h d) {b : Nat} (hb : b < nU d) (kk : post (nI (mbs d b)) h) : wp_Bus_length Z post h (A 9 b) := by
  obtain ⟨o1, o2, o3, o4, o5⟩ := C.U hb
  obtain ⟨-, -, -, h4, h5⟩ := hd.2.2.2.2.2.2.2 b hb
  refine ⟨o1, o1, ?_⟩
  rw [o4, o5]
  have e : (if 0 ≤ nI (uTo d b) - nI (uFr d b) then nI (uTo d b) - nI (uFr d b) else 0 - (nI (uTo d b) - nI (uFr d b))) + 1 = nI (mbs d b) := by
    unfold mbs
    by_cases z : uTo d b < uFr d b
    · rw [if_pos z, if_neg]
      · have : (0 : Int32) - (nI (uTo d b) - nI (uFr d b)) = nI (uFr d b - uTo d b) := by
          rw [← pk_sub (by omega), Int32.zero_sub, Int32.neg_sub]
        rw [this, nI_1, Nat.add_comm]
      · intro w
        have := pk_sneg (a := uTo d b) (b := uFr d b) (by omega) z
        rw [Int32.lt_iff_toInt_lt] at this
        rw [Int32.le_iff_toInt_le] at w
        omega
    · rw [if_neg z, pk_sub (by omega), if_pos (nI_pos' (by omega)), nI_1, Nat.add_comm]
  rw [e]; exact kk
theorem sp_bmem {post : Int32 → HS → Prop} (hd : WF d) (C : CD Z vx A B h d) {b i : Nat} (hb : b < nU d) (hi : i < mbs d b) (kk : post (nI (mem d b i)) h) : wp_Bus_member Z post h (A 9 b) (nI i) := by
  obtain ⟨o1, o2, o3, o4, o5⟩ := C.U hb
  obtain ⟨-, -, -, h4, h5⟩ := hd.2.2.2.2.2.2.2 b hb
  refine ⟨o1, o1, ?_⟩
  rw [o4, o5]
  unfold mem at kk
  unfold mbs at hi
  refine pk_lt (uTo d b) (uFr d b) (fun z => ⟨o1, ?_⟩) (fun z => ⟨o1, ?_⟩)
  · rw [if_pos z] at kk hi
    rw [pk_sub (by omega)]; exact kk
  · rw [if_neg (by omega)] at kk
    rw [nI_add]; exact kk
def Pmb (d : DS) (b t c u i x y : Nat) : Prop := x = cnm t (mem d b i) ∧ y = cnm u (mem d c i)
theorem mbs_le (hd : WF d) {b : Nat} (hb : b < nU d) : mbs d b ≤ 1000 := by
  obtain ⟨-, -, -, h4, h5⟩ := hd.2.2.2.2.2.2.2 b hb
  unfold mbs
  split <;> omega
theorem sp_joinMembers {post : HS → Prop} (hd : WF d) (X : XJ Z vx A B h d lt U) {b t c u : Nat} (hb : b < nU d) (hc : c < nU d) (ht : t < nS d) (hu : u < nS d) (kk : ∀ h', XJ Z vx A B h' d lt (acc U (Pmb d b t c u) (min (mbs d b) (mbs d c))) → sm2 B h h' → post h') : wp_NJ_joinMembers Z post h vx (some (A 9 b)) (nI t) (some (A 9 c)) (nI u) := by
  have hS := hd.1.1
  have m1 := mbs_le hd hb
  have m2 := mbs_le hd hc
  refine ⟨A 9 b, rfl, (X.1.U hb).1, sp_blen hd X.1 hb ⟨A 9 c, rfl, (X.1.U hc).1, sp_blen hd X.1 hc ?_⟩⟩
  rintro y rfl
  have e : (if nI (mbs d c) < nI (mbs d b) then nI (mbs d c) else nI (mbs d b)) = nI (min (mbs d b) (mbs d c)) := by
    split
    · rename_i z; rw [nI_ltI (by omega) (by omega)] at z; rw [Nat.min_eq_right (by omega)]
    · rename_i z; rw [nI_ltI (by omega) (by omega)] at z; rw [Nat.min_eq_left (by omega)]
  rw [e]
  generalize hN : min (mbs d b) (mbs d c) = N at kk
  refine lp_inv (fun q => ∃ i, q.1 = some (A 9 b) ∧ q.2.1 = nI t ∧ q.2.2.1 = some (A 9 c) ∧ q.2.2.2.1 = nI u ∧ q.2.2.2.2.1 = nI N ∧ q.2.2.2.2.2.1 = nI i ∧ i ≤ N ∧ XJ Z vx A B q.2.2.2.2.2.2 d lt (acc U (Pmb d b t c u) i) ∧ sm2 B h q.2.2.2.2.2.2) (fun q => N - q.2.2.2.2.2.1.toNatClampNeg) ?_ _ ⟨0, rfl, rfl, rfl, rfl, rfl, rfl, by omega, X.eq (acc_0 _ _), sm_rf⟩
  rintro ⟨x1, x2, x3, x4, x5, x6, h1⟩ K ⟨i, e1, e2, e3, e4, e5, e6, hi, X1, s1⟩ hK
  dsimp only at e1 e2 e3 e4 e5 e6 X1 s1
  subst e1 e2 e3 e4 e5 e6
  have C := X1.1
  unfold wb_NJ_joinMembers_16
  dsimp only
  refine pk_le N i (fun z => kk h1 (X1.eq (by rw [show i = N from by omega])) s1) (fun z => ?_)
  have i1 : i < mbs d b := by omega
  have i2 : i < mbs d c := by omega
  have k1 := mem_lt hd hb i1
  have k2 := mem_lt hd hc i2
  refine ⟨C.x, A 9 b, rfl, (C.U hb).1, sp_bmem hd C hb i1 (sp_nameNode (by omega) k1 ⟨A 9 c, rfl, (C.U hc).1, sp_bmem hd C hc i2 (sp_nameNode (by omega) k2 ⟨A 13 0, X1.up.1, X1.up.2, X1.join (vl_nm ht hS k1) (vl_nm hu hS k2) fun h2 X2 s2 => ?_⟩)⟩)⟩
  rintro y rfl
  refine hK _ ⟨i + 1, rfl, rfl, rfl, rfl, rfl, nI_1 i, by omega, X2.eq (acc_1 fun x y => Iff.rfl), sm_tr s1 s2⟩ ?_
  dsimp only
  rw [nI_1, jr_cl (by omega), jr_cl (by omega)]; omega
theorem sp_longest {post : Option Nat → HS → Prop} (hd : WF d) (C : CD Z vx A B h d) {b : Nat} (hb : b < nU d) (h0 : (∀ c, ¬ lgb d b c) → post none h) (h1 : ∀ c, lgb d b c → post (some (A 9 c)) h) : wp_NJ_longestBefore Z post h vx (nI b) := by
  have hS := hd.1.1
  have hU := hd.1.2.2.2.2.2.2
  obtain ⟨o1, o2, o3, o4, o5⟩ := C.U hb
  have ub := hd.2.2.2.2.2.2.2 b hb
  refine ⟨C.x, A 1 7, C.p (by omega), C.lT (by omega), sp_get C.bu hb ⟨cst o1, ?_⟩⟩
  refine lp_inv (fun q => ∃ i, q.1 = nI b ∧ q.2.1 = some (A 9 b) ∧ q.2.2.2.1 = nI i ∧ i ≤ b ∧ q.2.2.2.2 = h ∧ ((q.2.2.1 = none ∧ ∀ x, x < i → ¬ meets d x b) ∨ ∃ c, c < i ∧ q.2.2.1 = some (A 9 c) ∧ meets d c b ∧ (∀ x, x < i → meets d x b → mbs d x ≤ mbs d c) ∧ ∀ x, x < c → meets d x b → mbs d x < mbs d c)) (fun q => b - q.2.2.2.1.toNatClampNeg) ?_ _ ⟨0, rfl, rfl, rfl, by omega, rfl, Or.inl ⟨rfl, fun x hx => absurd hx (Nat.not_lt_zero _)⟩⟩
  rintro ⟨x1, x2, x3, x4, g⟩ K ⟨i, e1, e2, e4, hi, e5, F⟩ hK
  dsimp only at e1 e2 e4 e5 F
  subst e1 e2 e4 e5
  unfold wb_NJ_longestBefore_17
  dsimp only
  refine pk_le b i (fun z => ?_) (fun z => ?_)
  · have hib : i = b := by omega
    subst hib
    rcases F with ⟨rfl, F⟩ | ⟨c, c1, rfl, c2, c3, c4⟩
    · exact h0 fun c hc => F c hc.1 hc.2.1
    · exact h1 c ⟨c1, c2, c3, c4⟩
  have hiu : i < nU d := by omega
  obtain ⟨p1, p2, p3, p4, p5⟩ := C.U hiu
  have ui := hd.2.2.2.2.2.2.2 i hiu
  -- the next turn
  have keep : ¬ meets d i b → wj_NJ_longestBefore_102 Z post K vx (nI b) (some (A 9 b)) x3 (nI i) g := by
    intro nm
    rintro y rfl
    refine hK _ ⟨i + 1, rfl, rfl, nI_1 i, by omega, rfl, ?_⟩ ?_
    · rcases F with ⟨F1, F⟩ | ⟨c, c1, c2, c3, c4, c5⟩
      · exact Or.inl ⟨F1, fun x hx => by
          by_cases w : x = i
          · subst w; exact nm
          · exact F x (by omega)⟩
      · exact Or.inr ⟨c, by omega, c2, c3, fun x hx hm => by
          by_cases w : x = i
          · subst w; exact absurd hm nm
          · exact c4 x (by omega) hm, c5⟩
    · dsimp only
      rw [nI_1, jr_cl (by omega), jr_cl (by omega)]; omega
  have yes : meets d i b → wj_NJ_longestBefore_76 Z post K vx (nI b) (some (A 9 b)) x3 (nI i) (some (A 9 i)) 1 g := by
    intro m
    refine ⟨fun y => absurd y (by decide), fun _ => ⟨fun n => ?_, fun n => ?_⟩⟩
    · rintro y rfl
      refine hK _ ⟨i + 1, rfl, rfl, nI_1 i, by omega, rfl, Or.inr ⟨i, by omega, rfl, m, fun x hx hm => ?_, fun x hx hm => ?_⟩⟩ ?_
      · rcases F with ⟨F1, F⟩ | ⟨c, c1, c2, c3, c4, c5⟩
        · by_cases w : x = i
          · subst w; exact Nat.le_refl _
          · exact absurd hm (F x (by omega))
        · rw [n] at c2; cases c2
      · rcases F with ⟨F1, F⟩ | ⟨c, c1, c2, c3, c4, c5⟩
        · exact absurd hm (F x hx)
        · rw [n] at c2; cases c2
      · dsimp only
        rw [nI_1, jr_cl (by omega), jr_cl (by omega)]; omega
    · rcases F with ⟨F1, F⟩ | ⟨c, c1, c2, c3, c4, c5⟩
      · exact absurd F1 n
      subst c2
      have hc : c < nU d := by omega
      have m1 := mbs_le hd hc
      have m2 := mbs_le hd hiu
      refine ⟨A 9 i, rfl, p1, sp_blen hd C hiu ⟨A 9 c, rfl, (C.U hc).1, sp_blen hd C hc (pk_le (mbs d i) (mbs d c) (fun w => ?_) (fun w => ?_))⟩⟩
      · rintro y rfl
        refine hK _ ⟨i + 1, rfl, rfl, nI_1 i, by omega, rfl, Or.inr ⟨c, by omega, rfl, c3, fun x hx hm => ?_, c5⟩⟩ ?_
        · by_cases v : x = i
          · subst v; exact w
          · exact c4 x (by omega) hm
        · dsimp only
          rw [nI_1, jr_cl (by omega), jr_cl (by omega)]; omega
      · rintro y rfl
        refine hK _ ⟨i + 1, rfl, rfl, nI_1 i, by omega, rfl, Or.inr ⟨i, by omega, rfl, m, fun x hx hm => ?_, fun x hx hm => ?_⟩⟩ ?_
        · by_cases v : x = i
          · subst v; exact Nat.le_refl _
          · have := c4 x (by omega) hm; omega
        · have := c4 x hx hm; omega
        · dsimp only
          rw [nI_1, jr_cl (by omega), jr_cl (by omega)]; omega
  have no : ¬ meets d i b → wj_NJ_longestBefore_76 Z post K vx (nI b) (some (A 9 b)) x3 (nI i) (some (A 9 i)) 0 g := fun nm => ⟨fun _ => keep nm, fun y => absurd rfl y⟩
  refine ⟨C.x, A 1 7, C.p (by omega), C.lT (by omega), sp_get C.bu hiu ⟨cst p1, A 9 i, rfl, p1, A 9 b, rfl, o1, ?_⟩⟩
  rw [p3, o3]
  refine ⟨fun c => no fun m => c (by rw [m.1]), fun c => ⟨A 9 b, rfl, o1, ?_⟩⟩
  have c' : uNm d i = uNm d b := (nI_eq (by omega) (by omega)).mp c
  rw [o3]
  refine sp_isPower (by omega) (fun w => ⟨fun _ => yes ⟨c', Or.inl w⟩, fun y => absurd y (by decide)⟩) (fun w => ⟨fun y => absurd rfl y, fun _ => ⟨A 9 i, rfl, p1, A 9 b, rfl, o1, ?_⟩⟩)
  rw [p2, o2]
  refine ⟨fun v => no fun m => ?_, fun v => yes ⟨c', Or.inr ((nI_eq (by omega) (by omega)).mp v)⟩⟩
  rcases m.2 with q | q
  · omega
  · exact v (by rw [q])
/-- what the bus b joins on the sheet t -/
def JB (d : DS) (b t x y : Nat) : Prop := ∃ i, i < mbs d b ∧ x = cnm t (mem d b i) ∧
  ((900 ≤ uNm d b ∧ t ≠ uSh d b ∧ y = cnm (uSh d b) (mem d b i)) ∨ (¬ (900 ≤ uNm d b ∧ t ≠ uSh d b) ∧ ∃ c, lgb d b c ∧ i < mbs d c ∧ y = cnm (if 900 ≤ uNm d b then uSh d c else t) (mem d c i)))
theorem lgb_uniq {b c e : Nat} (h : lgb d b c) (k : lgb d b e) : c = e := by
  rcases Nat.lt_trichotomy c e with z | z | z
  · have h1 := k.2.2.2 c z h.2.1
    have h2 := h.2.2.1 e k.1 k.2.1
    omega
  · exact z
  · have h1 := h.2.2.2 e z k.2.1
    have h2 := k.2.2.1 c h.1 h.2.1
    omega
theorem sp_joinBus {post : HS → Prop} (hd : WF d) (X : XJ Z vx A B h d lt U) {b t : Nat} (hb : b < nU d) (ht : t < nS d) (kk : ∀ h', XJ Z vx A B h' d lt (fun x y => U x y ∨ JB d b t x y) → sm2 B h h' → post h') : wp_NJ_joinBus Z post h vx (nI b) (nI t) := by
  have hS := hd.1.1
  have C := X.1
  obtain ⟨o1, o2, o3, o4, o5⟩ := C.U hb
  have ub := hd.2.2.2.2.2.2.2 b hb
  -- by way of the longest earlier one
  have far : ∀ x4 : Int32, (x4 = 0 ↔ uNm d b < 900) → ¬ (900 ≤ uNm d b ∧ t ≠ uSh d b) → wj_NJ_joinBus_46 Z post vx (nI b) (nI t) (some (A 9 b)) x4 h := by
    intro x4 h4 hn
    refine ⟨C.x, sp_longest hd C hb (fun no => ⟨fun _ => kk h (X.eq ?_) sm_rf, fun y => absurd rfl y⟩) (fun c hc => ⟨(fun y => by cases y), fun _ => ?_⟩)⟩
    · funext x y
      refine propext ⟨fun z => ?_, Or.inl⟩
      rcases z with z | ⟨i, -, -, z⟩
      · exact z
      · rcases z with z | ⟨-, c, hc, -⟩
        · exact absurd ⟨z.1, z.2.1⟩ hn
        · exact absurd hc (no c)
    · have hcu : c < nU d := Nat.lt_trans hc.1 hb
      obtain ⟨q1, q2, q3, q4, q5⟩ := C.U hcu
      have uc := hd.2.2.2.2.2.2.2 c hcu
      have done : ∀ u, u = (if 900 ≤ uNm d b then uSh d c else t) → wj_NJ_joinBus_77 Z post vx (nI u) (some (A 9 c)) (nI t) (some (A 9 b)) (some vx) h := by
        intro u hu
        have hu' : u < nS d := by rw [hu]; split; exact uc.1; exact ht
        refine ⟨vx, rfl, C.x, sp_joinMembers hd X hb hcu ht hu' fun h2 X2 s2 => kk h2 (X2.eq ?_) s2⟩
        funext x y
        refine propext ⟨fun z => ?_, fun z => ?_⟩
        · rcases z with z | ⟨i, z1, z2, z3⟩
          · exact Or.inl z
          · rcases z3 with z3 | ⟨-, e, he, w1, w2⟩
            · exact absurd ⟨z3.1, z3.2.1⟩ hn
            · have := lgb_uniq hc he
              subst this
              exact Or.inr ⟨i, by omega, z2, by rw [hu]; exact w2⟩
        · rcases z with z | ⟨i, z1, z2, z3⟩
          · exact Or.inl z
          · exact Or.inr ⟨i, by omega, z2, Or.inr ⟨hn, c, hc, by omega, by rw [← hu]; exact z3⟩⟩
      refine ⟨fun y => done t (by rw [if_neg (by have := h4.mp y; omega)]), fun y => ⟨A 9 c, rfl, q1, ?_⟩⟩
      rw [q2]
      exact done (uSh d c) (by rw [if_pos]; exact Nat.le_of_not_lt fun w => y (h4.mpr w))
  refine ⟨C.x, A 1 7, C.p (by omega), C.lT (by omega), sp_get C.bu hb ⟨cst o1, A 9 b, rfl, o1, ?_⟩⟩
  rw [o3]
  refine sp_isPower (by omega) (fun w => ⟨fun y => absurd y (by decide), fun _ => ⟨A 9 b, rfl, o1, ?_⟩⟩) (fun w => ⟨fun _ => far 0 ⟨fun _ => w, fun _ => rfl⟩ (fun z => by omega), fun y => absurd rfl y⟩)
  rw [o2]
  refine ⟨fun v => far 1 ⟨fun z => absurd z (by decide), fun z => by omega⟩ (fun z => z.2 ((nI_eq (by omega) (by omega)).mp v)), fun v => ⟨A 9 b, rfl, o1, C.x, ?_⟩⟩
  rw [o2]
  have v' : t ≠ uSh d b := fun z => v (by rw [z])
  refine sp_joinMembers hd X hb hb ht ub.1 fun h2 X2 s2 => kk h2 (X2.eq ?_) s2
  funext x y
  refine propext ⟨fun z => ?_, fun z => ?_⟩
  · rcases z with z | ⟨i, z1, z2, z3⟩
    · exact Or.inl z
    · rcases z3 with z3 | ⟨z3, -⟩
      · exact Or.inr ⟨i, by omega, z2, z3.2.2⟩
      · exact absurd ⟨w, v'⟩ z3
  · rcases z with z | ⟨i, z1, z2, z3⟩
    · exact Or.inl z
    · exact Or.inr ⟨i, by omega, z2, Or.inl ⟨w, v', z3⟩⟩
end SPR
