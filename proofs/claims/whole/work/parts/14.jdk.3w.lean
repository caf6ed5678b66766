/-- java/util/AbstractCollection.<init>()V -/
def wp_ABC_init (Z : Nat → Nat) (post : HS → Prop) (h : HS) (v0 : Nat)  : Prop :=
  post h
/-- java/util/AbstractList.<init>()V -/
def wp_ABL_init (Z : Nat → Nat) (post : HS → Prop) (h : HS) (v0 : Nat)  : Prop :=
  wp_ABC_init Z (fun h2 => gT h2 v0 = 25 ∧ (∀ h4, h4 = sI h2 902 v0 (0 : Int32) → (post h4))) h v0
/-- java/util/ArrayList.<init>()V -/
def wp_AL_init (Z : Nat → Nat) (post : HS → Prop) (h : HS) (v0 : Nat)  : Prop :=
  wp_ABL_init Z (fun h2 => gT h2 v0 = 25 ∧ (∀ h4, h4 = sR h2 900 v0 (some (Z 0)) → (post h4))) h v0
/-- java/util/ArrayList.size()I -/
def wp_AL_size (Z : Nat → Nat) (post : Int32 → HS → Prop) (h : HS) (v0 : Nat)  : Prop :=
  gT h v0 = 25 ∧ (post (gI h 901 v0) h)
/-- jdk/internal/util/Preconditions.checkIndex(IILjava/util/function/BiFunction;)I -/
def wp_PRE_checkIndex (Z : Nat → Nat) (post : Int32 → HS → Prop) (h : HS) (x0 : Int32) (x1 : Int32) (x2 : Option Nat) : Prop :=
  (x0 < 0 → (False)) ∧ (¬ x0 < 0 → ((x0 < x1 → (post x0 h)) ∧ (¬ x0 < x1 → (False))))
/-- java/util/Objects.checkIndex(II)I -/
def wp_OBJ_checkIndex (Z : Nat → Nat) (post : Int32 → HS → Prop) (h : HS) (x0 : Int32) (x1 : Int32) : Prop :=
  wp_PRE_checkIndex Z (fun r1 h2 => post r1 h2) h x0 x1 none
/-- java/util/ArrayList.elementData(I)Ljava/lang/Object; -/
def wp_AL_elementData (Z : Nat → Nat) (post : Option Nat → HS → Prop) (h : HS) (v0 : Nat) (x1 : Int32) : Prop :=
  gT h v0 = 25 ∧ (∃ a2, (gR h 900 v0) = some a2 ∧ gT h a2 = 4 ∧ vp_in x1 (gN h a2) ∧ (post (gQ h a2 x1.toNatClampNeg) h))
/-- java/util/ArrayList.get(I)Ljava/lang/Object; -/
def wp_AL_get (Z : Nat → Nat) (post : Option Nat → HS → Prop) (h : HS) (v0 : Nat) (x1 : Int32) : Prop :=
  gT h v0 = 25 ∧ (wp_OBJ_checkIndex Z (fun r2 h3 => gT h3 v0 = 25 ∧ (wp_AL_elementData Z (fun r4 h5 => post r4 h5) h3 v0 x1)) h x1 (gI h 901 v0))
/-- jdk/internal/util/ArraysSupport.newLength(III)I -/
def wp_SUP_newLength (Z : Nat → Nat) (post : Int32 → HS → Prop) (h : HS) (x0 : Int32) (x1 : Int32) (x2 : Int32) : Prop :=
  ∀ y1, y1 = (x0 + (if x1 < x2 then x2 else x1)) → ((y1 ≤ (0 : Int32) → (False)) ∧ (¬ y1 ≤ (0 : Int32) → (((2147483639 : Int32) < y1 → (False)) ∧ (¬ (2147483639 : Int32) < y1 → (post y1 h)))))
/-- java/util/Arrays.copyOf([Ljava/lang/Object;ILjava/lang/Class;)[Ljava/lang/Object; -/
def wp_ARR_copyOf (Z : Nat → Nat) (post : Option Nat → HS → Prop) (h : HS) (x0 : Option Nat) (x1 : Int32) (x2 : Option Nat) : Prop :=
  (¬ x2 = some (Z 1) → (False)) ∧ (x2 = some (Z 1) → ((¬ x1 < 0) ∧ x1.toNatClampNeg ≤ 200 ∧ (∀ q2, gT h q2 = 0 → (∀ h4, h4 = nH h q2 4 x1.toNatClampNeg → (∃ n5, ((x0 = some (Z 0) ∧ n5 = 0) ∨ ∃ a, x0 = some a ∧ gT h4 a = 4 ∧ n5 = gN h4 a) ∧ (∃ a7, x0 = some a7 ∧ gT h4 a7 = 4 ∧ (gT h4 q2 = 4 ∧ (¬ (0 : Int32) < 0) ∧ (¬ (0 : Int32) < 0) ∧ (¬ (if x1 < (nI n5) then x1 else (nI n5)) < 0) ∧ (0 : Int32).toNatClampNeg + (if x1 < (nI n5) then x1 else (nI n5)).toNatClampNeg ≤ gN h4 a7 ∧ (0 : Int32).toNatClampNeg + (if x1 < (nI n5) then x1 else (nI n5)).toNatClampNeg ≤ gN h4 q2 ∧ (∀ i, i < (if x1 < (nI n5) then x1 else (nI n5)).toNatClampNeg → ∀ y, gQ h4 a7 ((0 : Int32).toNatClampNeg + i) = some y → lsT (gT h4 y)) ∧ (∀ h10, h10 = wQ h4 q2 (va_cpy (gQ h4 a7) (gQ h4 q2) (0 : Int32).toNatClampNeg (0 : Int32).toNatClampNeg (if x1 < (nI n5) then x1 else (nI n5)).toNatClampNeg) → (post (some q2) h10)))))))))
/-- java/util/Arrays.copyOf([Ljava/lang/Object;I)[Ljava/lang/Object; -/
def wp_ARR_copyOf2 (Z : Nat → Nat) (post : Option Nat → HS → Prop) (h : HS) (x0 : Option Nat) (x1 : Int32) : Prop :=
  ∃ a1, x0 = some a1 ∧ gT h a1 = 4 ∧ (wp_ARR_copyOf Z (fun r3 h4 => post r3 h4) h x0 x1 (some (Z 1)))
/-- java/util/ArrayList.grow(I)[Ljava/lang/Object; -/
def wj_AL_grow_20 (Z : Nat → Nat) (post : Option Nat → HS → Prop) (v0 : Nat) (x1 : Int32) (x2 : Int32) (h : HS) : Prop :=
  wp_SUP_newLength Z (fun r1 h2 => gT h2 v0 = 25 ∧ (wp_ARR_copyOf2 Z (fun r4 h5 => gT h5 v0 = 25 ∧ (∀ h7, h7 = sR h5 900 v0 r4 → (post r4 h7))) h2 (gR h2 900 v0) r1)) h x2 (x1 - x2) (x2 >>> ((1 : Int32) &&& 31))
def wp_AL_grow (Z : Nat → Nat) (post : Option Nat → HS → Prop) (h : HS) (v0 : Nat) (x1 : Int32) : Prop :=
  gT h v0 = 25 ∧ (∃ n2, (((gR h 900 v0) = some (Z 0) ∧ n2 = 0) ∨ ∃ a, (gR h 900 v0) = some a ∧ gT h a = 4 ∧ n2 = gN h a) ∧ (∀ y4, y4 = (nI n2) → ((0 < y4 → (wj_AL_grow_20 Z post v0 x1 y4 h)) ∧ (¬ 0 < y4 → (gT h v0 = 25 ∧ (((gR h 900 v0) = some (Z 0) → ((¬ (if (10 : Int32) < x1 then x1 else (10 : Int32)) < 0) ∧ (if (10 : Int32) < x1 then x1 else (10 : Int32)).toNatClampNeg ≤ 200 ∧ (∀ q8, gT h q8 = 0 → (∀ h10, h10 = nH h q8 4 (if (10 : Int32) < x1 then x1 else (10 : Int32)).toNatClampNeg → (gT h10 v0 = 25 ∧ (∀ h12, h12 = sR h10 900 v0 (some q8) → (post (some q8) h12))))))) ∧ (¬ (gR h 900 v0) = some (Z 0) → (wj_AL_grow_20 Z post v0 x1 y4 h))))))))
/-- java/util/ArrayList.grow()[Ljava/lang/Object; -/
def wp_AL_grow2 (Z : Nat → Nat) (post : Option Nat → HS → Prop) (h : HS) (v0 : Nat)  : Prop :=
  gT h v0 = 25 ∧ (gT h v0 = 25 ∧ (wp_AL_grow Z (fun r2 h3 => post r2 h3) h v0 ((gI h 901 v0) + (1 : Int32))))
/-- java/util/ArrayList.add(Ljava/lang/Object;[Ljava/lang/Object;I)V -/
def wj_AL_add_11 (Z : Nat → Nat) (post : HS → Prop) (v0 : Nat) (x1 : Option Nat) (x2 : Option Nat) (x3 : Int32) (h : HS) : Prop :=
  ∃ a1, x2 = some a1 ∧ gT h a1 = 4 ∧ vp_in x3 (gN h a1) ∧ (∃ a3, x1 = some a3 ∧ lsT (gT h a3) ∧ (∀ h5, h5 = sQ h a1 x3.toNatClampNeg x1 → (gT h5 v0 = 25 ∧ (∀ h7, h7 = sI h5 901 v0 (x3 + (1 : Int32)) → (post h7)))))
def wp_AL_add (Z : Nat → Nat) (post : HS → Prop) (h : HS) (v0 : Nat) (x1 : Option Nat) (x2 : Option Nat) (x3 : Int32) : Prop :=
  ∃ n1, ((x2 = some (Z 0) ∧ n1 = 0) ∨ ∃ a, x2 = some a ∧ gT h a = 4 ∧ n1 = gN h a) ∧ ((¬ x3 = (nI n1) → (wj_AL_add_11 Z post v0 x1 x2 x3 h)) ∧ (x3 = (nI n1) → (gT h v0 = 25 ∧ (wp_AL_grow2 Z (fun r4 h5 => wj_AL_add_11 Z post v0 x1 r4 x3 h5) h v0))))
/-- java/util/ArrayList.add(Ljava/lang/Object;)Z -/
def wp_AL_add2 (Z : Nat → Nat) (post : Int32 → HS → Prop) (h : HS) (v0 : Nat) (x1 : Option Nat) : Prop :=
  gT h v0 = 25 ∧ (gT h v0 = 25 ∧ (∀ h3, h3 = sI h 902 v0 ((gI h 902 v0) + (1 : Int32)) → (gT h3 v0 = 25 ∧ (gT h3 v0 = 25 ∧ (gT h3 v0 = 25 ∧ (wp_AL_add Z (fun h7 => post (1 : Int32) h7) h3 v0 x1 (gR h3 900 v0) (gI h3 901 v0)))))))
/-- java/util/ArrayList.rangeCheckForAdd(I)V -/
def wp_AL_rangeCheckForAdd (Z : Nat → Nat) (post : HS → Prop) (h : HS) (v0 : Nat) (x1 : Int32) : Prop :=
  gT h v0 = 25 ∧ (((gI h 901 v0) < x1 → (False)) ∧ (¬ (gI h 901 v0) < x1 → ((0 ≤ x1 → (post h)) ∧ (¬ 0 ≤ x1 → (False)))))
/-- java/util/ArrayList.add(ILjava/lang/Object;)V -/
def wj_AL_add3_38 (Z : Nat → Nat) (post : HS → Prop) (v0 : Nat) (x1 : Int32) (x2 : Option Nat) (x3 : Int32) (x4 : Option Nat) (h : HS) : Prop :=
  ∃ a1, x4 = some a1 ∧ gT h a1 = 4 ∧ (∃ a3, x4 = some a3 ∧ gT h a3 = 4 ∧ (¬ x1 < 0) ∧ (¬ (x1 + (1 : Int32)) < 0) ∧ (¬ (x3 - x1) < 0) ∧ x1.toNatClampNeg + (x3 - x1).toNatClampNeg ≤ gN h a1 ∧ (x1 + (1 : Int32)).toNatClampNeg + (x3 - x1).toNatClampNeg ≤ gN h a3 ∧ (∀ i, i < (x3 - x1).toNatClampNeg → ∀ y, gQ h a1 (x1.toNatClampNeg + i) = some y → lsT (gT h y)) ∧ (∀ h5, h5 = wQ h a3 (va_cpy (gQ h a1) (gQ h a3) x1.toNatClampNeg (x1 + (1 : Int32)).toNatClampNeg (x3 - x1).toNatClampNeg) → (∃ a6, x4 = some a6 ∧ gT h5 a6 = 4 ∧ vp_in x1 (gN h5 a6) ∧ (∃ a8, x2 = some a8 ∧ lsT (gT h5 a8) ∧ (∀ h10, h10 = sQ h5 a6 x1.toNatClampNeg x2 → (gT h10 v0 = 25 ∧ (∀ h12, h12 = sI h10 901 v0 (x3 + (1 : Int32)) → (post h12))))))))
def wp_AL_add3 (Z : Nat → Nat) (post : HS → Prop) (h : HS) (v0 : Nat) (x1 : Int32) (x2 : Option Nat) : Prop :=
  gT h v0 = 25 ∧ (wp_AL_rangeCheckForAdd Z (fun h2 => gT h2 v0 = 25 ∧ (gT h2 v0 = 25 ∧ (∀ h6, h6 = sI h2 902 v0 ((gI h2 902 v0) + (1 : Int32)) → (gT h6 v0 = 25 ∧ (∀ y8, y8 = (gI h6 901 v0) → (gT h6 v0 = 25 ∧ (∀ y10, y10 = (gR h6 900 v0) → (∃ n11, (((gR h6 900 v0) = some (Z 0) ∧ n11 = 0) ∨ ∃ a, (gR h6 900 v0) = some a ∧ gT h6 a = 4 ∧ n11 = gN h6 a) ∧ ((¬ (gI h6 901 v0) = (nI n11) → (wj_AL_add3_38 Z post v0 x1 x2 y8 y10 h6)) ∧ ((gI h6 901 v0) = (nI n11) → (gT h6 v0 = 25 ∧ (wp_AL_grow2 Z (fun r14 h15 => wj_AL_add3_38 Z post v0 x1 x2 y8 r14 h15) h6 v0)))))))))))) h v0 x1)
/-- java/util/Arrays.fill([II)V -/
def wb_ARR_fill_5 (Z : Nat → Nat) (post : HS → Prop) (K5 : Option Nat × Int32 × Int32 × Int32 × HS → Prop) : Option Nat × Int32 × Int32 × Int32 × HS → Prop := fun q => match q with
  | (x0, x1, x2, x3, h) =>
  (x3 ≤ x2 → (post h)) ∧ (¬ x3 ≤ x2 → (∃ a2, x0 = some a2 ∧ gT h a2 = 1 ∧ vp_in x2 (gN h a2) ∧ (∀ h4, h4 = sA h a2 x2.toNatClampNeg x1 → (∀ y5, y5 = x2 + (1 : Int32) → (K5 (x0, x1, y5, x3, h4))))))
def wp_ARR_fill (Z : Nat → Nat) (post : HS → Prop) (h : HS) (x0 : Option Nat) (x1 : Int32) : Prop :=
  ∃ a1, x0 = some a1 ∧ gT h a1 ≠ 0 ∧ gT h a1 < 6 ∧ (∀ y3, y3 = (nI (gN h a1)) → (lp (wb_ARR_fill_5 Z post) (x0, x1, (0 : Int32), y3, h)))
