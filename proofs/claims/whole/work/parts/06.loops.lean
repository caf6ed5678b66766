/-! LOOPS as predicates: so many turns at most -/
def lpF {σ : Type} (B : (σ → Prop) → σ → Prop) : Nat → σ → Prop
  | 0 => fun _ => False
  | n + 1 => B (lpF B n)
def lp {σ : Type} (B : (σ → Prop) → σ → Prop) (q : σ) : Prop := ∃ n, lpF B n q
/-- the rule of a loop: an invariant, a measure that falls -/
theorem lp_inv {σ : Type} {B : (σ → Prop) → σ → Prop} (I : σ → Prop) (μ : σ → Nat) (hs : ∀ (q : σ) (K : σ → Prop), I q → (∀ q', I q' → μ q' < μ q → K q') → B K q) : ∀ q, I q → lp B q := by
  have key : ∀ (n : Nat) (q : σ), I q → μ q < n → lpF B n q := by
    intro n
    induction n with
    | zero => intro q _ h; omega
    | succ n ih => exact fun q hq hn => hs q _ hq fun q' h1 h2 => ih q' h1 (by omega)
  exact fun q hq => ⟨μ q + 1, key _ q hq (Nat.lt_succ_self _)⟩
theorem mx_topr {p : Program} {l : Launch} {e : Env} {R : Room} {s : State} {m : MethodId} {args : Array Value} {below : List Frame} {meth : Method} {c : Code} {H : Heap} {locs : List Loc} {cells slots : Nat} {Q : State → Prop} {pc : Nat} {ls : Array Slot} {rest : List Value} {r : Option Nat} (k : ∀ y : Option Nat, y = r → W p l e R s m args below meth c H locs cells slots Q (F0 m pc ls (va_rf y :: rest))) : W p l e R s m args below meth c H locs cells slots Q (F0 m pc ls (va_rf r :: rest)) := k r rfl
theorem nf_NJ (h : HS) (q j : Nat) (hj : j < 18) : defaultValue (t_NJ j) = vp_V (fl (nH h q (16 + 0) 0) q 0) j := by
  match j, hj with
  | 0, _ => simp [t_NJ, vp_V, fl, lk, fv, gI, gJ, gR, nH, va_up, va_rf, defaultValue]
  | 1, _ => simp [t_NJ, vp_V, fl, lk, fv, gI, gJ, gR, nH, va_up, va_rf, defaultValue]
  | 2, _ => simp [t_NJ, vp_V, fl, lk, fv, gI, gJ, gR, nH, va_up, va_rf, defaultValue]
  | 3, _ => simp [t_NJ, vp_V, fl, lk, fv, gI, gJ, gR, nH, va_up, va_rf, defaultValue]
  | 4, _ => simp [t_NJ, vp_V, fl, lk, fv, gI, gJ, gR, nH, va_up, va_rf, defaultValue]
  | 5, _ => simp [t_NJ, vp_V, fl, lk, fv, gI, gJ, gR, nH, va_up, va_rf, defaultValue]
  | 6, _ => simp [t_NJ, vp_V, fl, lk, fv, gI, gJ, gR, nH, va_up, va_rf, defaultValue]
  | 7, _ => simp [t_NJ, vp_V, fl, lk, fv, gI, gJ, gR, nH, va_up, va_rf, defaultValue]
  | 8, _ => simp [t_NJ, vp_V, fl, lk, fv, gI, gJ, gR, nH, va_up, va_rf, defaultValue]
  | 9, _ => simp [t_NJ, vp_V, fl, lk, fv, gI, gJ, gR, nH, va_up, va_rf, defaultValue]
  | 10, _ => simp [t_NJ, vp_V, fl, lk, fv, gI, gJ, gR, nH, va_up, va_rf, defaultValue]
  | 11, _ => simp [t_NJ, vp_V, fl, lk, fv, gI, gJ, gR, nH, va_up, va_rf, defaultValue]
  | 12, _ => simp [t_NJ, vp_V, fl, lk, fv, gI, gJ, gR, nH, va_up, va_rf, defaultValue]
  | 13, _ => simp [t_NJ, vp_V, fl, lk, fv, gI, gJ, gR, nH, va_up, va_rf, defaultValue]
  | 14, _ => simp [t_NJ, vp_V, fl, lk, fv, gI, gJ, gR, nH, va_up, va_rf, defaultValue]
  | 15, _ => simp [t_NJ, vp_V, fl, lk, fv, gI, gJ, gR, nH, va_up, va_rf, defaultValue]
  | 16, _ => simp [t_NJ, vp_V, fl, lk, fv, gI, gJ, gR, nH, va_up, va_rf, defaultValue]
  | 17, _ => simp [t_NJ, vp_V, fl, lk, fv, gI, gJ, gR, nH, va_up, va_rf, defaultValue]
  | j + 18, hj => omega
theorem nf_Bus (h : HS) (q j : Nat) (hj : j < 4) : defaultValue (t_Bus j) = vp_V (fl (nH h q (16 + 1) 0) q 1) j := by
  match j, hj with
  | 0, _ => simp [t_Bus, vp_V, fl, lk, fv, gI, gJ, gR, nH, va_up, va_rf, defaultValue]
  | 1, _ => simp [t_Bus, vp_V, fl, lk, fv, gI, gJ, gR, nH, va_up, va_rf, defaultValue]
  | 2, _ => simp [t_Bus, vp_V, fl, lk, fv, gI, gJ, gR, nH, va_up, va_rf, defaultValue]
  | 3, _ => simp [t_Bus, vp_V, fl, lk, fv, gI, gJ, gR, nH, va_up, va_rf, defaultValue]
  | j + 4, hj => omega
theorem nf_Joins (h : HS) (q j : Nat) (hj : j < 1) : defaultValue (t_Joins j) = vp_V (fl (nH h q (16 + 2) 0) q 2) j := by
  match j, hj with
  | 0, _ => simp [t_Joins, vp_V, fl, lk, fv, gI, gJ, gR, nH, va_up, va_rf, defaultValue]
  | j + 1, hj => omega
theorem nf_Tab (h : HS) (q j : Nat) (hj : j < 7) : defaultValue (t_Tab j) = vp_V (fl (nH h q (16 + 3) 0) q 3) j := by
  match j, hj with
  | 0, _ => simp [t_Tab, vp_V, fl, lk, fv, gI, gJ, gR, nH, va_up, va_rf, defaultValue]
  | 1, _ => simp [t_Tab, vp_V, fl, lk, fv, gI, gJ, gR, nH, va_up, va_rf, defaultValue]
  | 2, _ => simp [t_Tab, vp_V, fl, lk, fv, gI, gJ, gR, nH, va_up, va_rf, defaultValue]
  | 3, _ => simp [t_Tab, vp_V, fl, lk, fv, gI, gJ, gR, nH, va_up, va_rf, defaultValue]
  | 4, _ => simp [t_Tab, vp_V, fl, lk, fv, gI, gJ, gR, nH, va_up, va_rf, defaultValue]
  | 5, _ => simp [t_Tab, vp_V, fl, lk, fv, gI, gJ, gR, nH, va_up, va_rf, defaultValue]
  | 6, _ => simp [t_Tab, vp_V, fl, lk, fv, gI, gJ, gR, nH, va_up, va_rf, defaultValue]
  | j + 7, hj => omega
theorem nf_Port (h : HS) (q j : Nat) (hj : j < 5) : defaultValue (t_Port j) = vp_V (fl (nH h q (16 + 4) 0) q 4) j := by
  match j, hj with
  | 0, _ => simp [t_Port, vp_V, fl, lk, fv, gI, gJ, gR, nH, va_up, va_rf, defaultValue]
  | 1, _ => simp [t_Port, vp_V, fl, lk, fv, gI, gJ, gR, nH, va_up, va_rf, defaultValue]
  | 2, _ => simp [t_Port, vp_V, fl, lk, fv, gI, gJ, gR, nH, va_up, va_rf, defaultValue]
  | 3, _ => simp [t_Port, vp_V, fl, lk, fv, gI, gJ, gR, nH, va_up, va_rf, defaultValue]
  | 4, _ => simp [t_Port, vp_V, fl, lk, fv, gI, gJ, gR, nH, va_up, va_rf, defaultValue]
  | j + 5, hj => omega
theorem nf_Sheet (h : HS) (q j : Nat) (hj : j < 5) : defaultValue (t_Sheet j) = vp_V (fl (nH h q (16 + 5) 0) q 5) j := by
  match j, hj with
  | 0, _ => simp [t_Sheet, vp_V, fl, lk, fv, gI, gJ, gR, nH, va_up, va_rf, defaultValue]
  | 1, _ => simp [t_Sheet, vp_V, fl, lk, fv, gI, gJ, gR, nH, va_up, va_rf, defaultValue]
  | 2, _ => simp [t_Sheet, vp_V, fl, lk, fv, gI, gJ, gR, nH, va_up, va_rf, defaultValue]
  | 3, _ => simp [t_Sheet, vp_V, fl, lk, fv, gI, gJ, gR, nH, va_up, va_rf, defaultValue]
  | 4, _ => simp [t_Sheet, vp_V, fl, lk, fv, gI, gJ, gR, nH, va_up, va_rf, defaultValue]
  | j + 5, hj => omega
theorem nf_Spot (h : HS) (q j : Nat) (hj : j < 6) : defaultValue (t_Spot j) = vp_V (fl (nH h q (16 + 6) 0) q 6) j := by
  match j, hj with
  | 0, _ => simp [t_Spot, vp_V, fl, lk, fv, gI, gJ, gR, nH, va_up, va_rf, defaultValue]
  | 1, _ => simp [t_Spot, vp_V, fl, lk, fv, gI, gJ, gR, nH, va_up, va_rf, defaultValue]
  | 2, _ => simp [t_Spot, vp_V, fl, lk, fv, gI, gJ, gR, nH, va_up, va_rf, defaultValue]
  | 3, _ => simp [t_Spot, vp_V, fl, lk, fv, gI, gJ, gR, nH, va_up, va_rf, defaultValue]
  | 4, _ => simp [t_Spot, vp_V, fl, lk, fv, gI, gJ, gR, nH, va_up, va_rf, defaultValue]
  | 5, _ => simp [t_Spot, vp_V, fl, lk, fv, gI, gJ, gR, nH, va_up, va_rf, defaultValue]
  | j + 6, hj => omega
theorem nf_Wire (h : HS) (q j : Nat) (hj : j < 7) : defaultValue (t_Wire j) = vp_V (fl (nH h q (16 + 7) 0) q 7) j := by
  match j, hj with
  | 0, _ => simp [t_Wire, vp_V, fl, lk, fv, gI, gJ, gR, nH, va_up, va_rf, defaultValue]
  | 1, _ => simp [t_Wire, vp_V, fl, lk, fv, gI, gJ, gR, nH, va_up, va_rf, defaultValue]
  | 2, _ => simp [t_Wire, vp_V, fl, lk, fv, gI, gJ, gR, nH, va_up, va_rf, defaultValue]
  | 3, _ => simp [t_Wire, vp_V, fl, lk, fv, gI, gJ, gR, nH, va_up, va_rf, defaultValue]
  | 4, _ => simp [t_Wire, vp_V, fl, lk, fv, gI, gJ, gR, nH, va_up, va_rf, defaultValue]
  | 5, _ => simp [t_Wire, vp_V, fl, lk, fv, gI, gJ, gR, nH, va_up, va_rf, defaultValue]
  | 6, _ => simp [t_Wire, vp_V, fl, lk, fv, gI, gJ, gR, nH, va_up, va_rf, defaultValue]
  | j + 7, hj => omega
theorem nf_Mod (h : HS) (q j : Nat) (hj : j < 33) : defaultValue (t_Mod j) = vp_V (fl (nH h q (16 + 8) 0) q 8) j := by
  match j, hj with
  | 0, _ => simp [t_Mod, vp_V, fl, lk, fv, gI, gJ, gR, nH, va_up, va_rf, defaultValue]
  | 1, _ => simp [t_Mod, vp_V, fl, lk, fv, gI, gJ, gR, nH, va_up, va_rf, defaultValue]
  | 2, _ => simp [t_Mod, vp_V, fl, lk, fv, gI, gJ, gR, nH, va_up, va_rf, defaultValue]
  | 3, _ => simp [t_Mod, vp_V, fl, lk, fv, gI, gJ, gR, nH, va_up, va_rf, defaultValue]
  | 4, _ => simp [t_Mod, vp_V, fl, lk, fv, gI, gJ, gR, nH, va_up, va_rf, defaultValue]
  | 5, _ => simp [t_Mod, vp_V, fl, lk, fv, gI, gJ, gR, nH, va_up, va_rf, defaultValue]
  | 6, _ => simp [t_Mod, vp_V, fl, lk, fv, gI, gJ, gR, nH, va_up, va_rf, defaultValue]
  | 7, _ => simp [t_Mod, vp_V, fl, lk, fv, gI, gJ, gR, nH, va_up, va_rf, defaultValue]
  | 8, _ => simp [t_Mod, vp_V, fl, lk, fv, gI, gJ, gR, nH, va_up, va_rf, defaultValue]
  | 9, _ => simp [t_Mod, vp_V, fl, lk, fv, gI, gJ, gR, nH, va_up, va_rf, defaultValue]
  | 10, _ => simp [t_Mod, vp_V, fl, lk, fv, gI, gJ, gR, nH, va_up, va_rf, defaultValue]
  | 11, _ => simp [t_Mod, vp_V, fl, lk, fv, gI, gJ, gR, nH, va_up, va_rf, defaultValue]
  | 12, _ => simp [t_Mod, vp_V, fl, lk, fv, gI, gJ, gR, nH, va_up, va_rf, defaultValue]
  | 13, _ => simp [t_Mod, vp_V, fl, lk, fv, gI, gJ, gR, nH, va_up, va_rf, defaultValue]
  | 14, _ => simp [t_Mod, vp_V, fl, lk, fv, gI, gJ, gR, nH, va_up, va_rf, defaultValue]
  | 15, _ => simp [t_Mod, vp_V, fl, lk, fv, gI, gJ, gR, nH, va_up, va_rf, defaultValue]
  | 16, _ => simp [t_Mod, vp_V, fl, lk, fv, gI, gJ, gR, nH, va_up, va_rf, defaultValue]
  | 17, _ => simp [t_Mod, vp_V, fl, lk, fv, gI, gJ, gR, nH, va_up, va_rf, defaultValue]
  | 18, _ => simp [t_Mod, vp_V, fl, lk, fv, gI, gJ, gR, nH, va_up, va_rf, defaultValue]
  | 19, _ => simp [t_Mod, vp_V, fl, lk, fv, gI, gJ, gR, nH, va_up, va_rf, defaultValue]
  | 20, _ => simp [t_Mod, vp_V, fl, lk, fv, gI, gJ, gR, nH, va_up, va_rf, defaultValue]
  | 21, _ => simp [t_Mod, vp_V, fl, lk, fv, gI, gJ, gR, nH, va_up, va_rf, defaultValue]
  | 22, _ => simp [t_Mod, vp_V, fl, lk, fv, gI, gJ, gR, nH, va_up, va_rf, defaultValue]
  | 23, _ => simp [t_Mod, vp_V, fl, lk, fv, gI, gJ, gR, nH, va_up, va_rf, defaultValue]
  | 24, _ => simp [t_Mod, vp_V, fl, lk, fv, gI, gJ, gR, nH, va_up, va_rf, defaultValue]
  | 25, _ => simp [t_Mod, vp_V, fl, lk, fv, gI, gJ, gR, nH, va_up, va_rf, defaultValue]
  | 26, _ => simp [t_Mod, vp_V, fl, lk, fv, gI, gJ, gR, nH, va_up, va_rf, defaultValue]
  | 27, _ => simp [t_Mod, vp_V, fl, lk, fv, gI, gJ, gR, nH, va_up, va_rf, defaultValue]
  | 28, _ => simp [t_Mod, vp_V, fl, lk, fv, gI, gJ, gR, nH, va_up, va_rf, defaultValue]
  | 29, _ => simp [t_Mod, vp_V, fl, lk, fv, gI, gJ, gR, nH, va_up, va_rf, defaultValue]
  | 30, _ => simp [t_Mod, vp_V, fl, lk, fv, gI, gJ, gR, nH, va_up, va_rf, defaultValue]
  | 31, _ => simp [t_Mod, vp_V, fl, lk, fv, gI, gJ, gR, nH, va_up, va_rf, defaultValue]
  | 32, _ => simp [t_Mod, vp_V, fl, lk, fv, gI, gJ, gR, nH, va_up, va_rf, defaultValue]
  | j + 33, hj => omega
theorem nf_AL (h : HS) (q j : Nat) (hj : j < 3) : defaultValue (t_AL j) = vp_V (fl (nH h q (16 + 9) 0) q 9) j := by
  match j, hj with
  | 0, _ => simp [t_AL, vp_V, fl, lk, fv, gI, gJ, gR, nH, va_up, va_rf, defaultValue]
  | 1, _ => simp [t_AL, vp_V, fl, lk, fv, gI, gJ, gR, nH, va_up, va_rf, defaultValue]
  | 2, _ => simp [t_AL, vp_V, fl, lk, fv, gI, gJ, gR, nH, va_up, va_rf, defaultValue]
  | j + 3, hj => omega
theorem cat_i (x : Int32) : (Value.int x).category = 1 := rfl
theorem cat_l (x : Int64) : (Value.long x).category = 2 := rfl
