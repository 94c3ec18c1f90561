/-! CLASS AND REFERENCE SIDE BY SIDE: numbers, and ore that is moved -/
theorem t_min {a b : Nat} (ha : a < 2 ^ 31) (hb : b < 2 ^ 31) : q_min (nI a) (nI b) = nI (min a b) := by
  unfold q_min
  by_cases c : b < a
  · rw [if_pos ((nI_ltI hb ha).mpr c), Nat.min_eq_right (Nat.le_of_lt c)]
  · rw [if_neg (fun h => c ((nI_ltI hb ha).mp h)), Nat.min_eq_left (Nat.le_of_not_lt c)]
theorem t_max {a b : Nat} (ha : a < 2 ^ 31) (hb : b < 2 ^ 31) : q_max (nI a) (nI b) = nI (max a b) := by
  unfold q_max
  by_cases c : a < b
  · rw [if_pos ((nI_ltI ha hb).mpr c), Nat.max_eq_right (Nat.le_of_lt c)]
  · rw [if_neg (fun h => c ((nI_ltI ha hb).mp h)), Nat.max_eq_left (Nat.le_of_not_lt c)]
/-- the tin of a part -/
def tT (r t a : Nat) : Nat := t * a / (r + t)
theorem tT_t {r t a : Nat} (h : a ≤ r + t) : tT r t a ≤ t := Nat.div_le_of_le_mul (by
  rw [Nat.mul_comm (r + t) t]
  exact Nat.mul_le_mul_left t h)
theorem tT_a {r t a : Nat} : tT r t a ≤ a := Nat.div_le_of_le_mul (Nat.mul_le_mul_right a (Nat.le_add_left t r))
theorem tT_r {r t a : Nat} (h : a ≤ r + t) : a - tT r t a ≤ r := by
  by_cases h0 : r + t = 0
  · omega
  · have h1 : a - r ≤ tT r t a := (Nat.le_div_iff_mul_le (by omega)).mpr (by
      by_cases c : a ≤ r
      · rw [Nat.sub_eq_zero_of_le c, Nat.zero_mul]; exact Nat.zero_le _
      · obtain ⟨d, rfl⟩ : ∃ d, a = r + d := ⟨a - r, by omega⟩
        rw [Nat.add_sub_cancel_left, Nat.mul_add, Nat.mul_add, Nat.mul_comm t d]
        exact Nat.add_le_add_right (Nat.mul_le_mul_right r (by omega)) _)
    omega
theorem tT_0 {r t : Nat} : tT r t 0 = 0 := by
  unfold tT
  rw [Nat.mul_zero, Nat.zero_div]
theorem t_mulb {a b : Nat} (ha : a < 2 ^ 31) (hb : b < 2 ^ 31) : a * b < 2 ^ 63 := Nat.lt_of_le_of_lt (Nat.mul_le_mul (Nat.le_of_lt ha) (Nat.le_of_lt hb)) (by decide)
theorem t_le1 {a : Nat} (h : 1 ≤ a) (ha : a < 2 ^ 31) : (1 : Int32) ≤ nI a := (nI_leI (a := 1) (by decide) ha).mpr h
theorem t_part {t a s : Nat} (ht : t < 2 ^ 31) (ha : a < 2 ^ 31) (hs : s < 2 ^ 31) : q_partOf (nI t) (nI a) (nI s) = nI (t * a / s) := by
  unfold q_partOf
  by_cases c : s = 0
  · subst c
    rw [if_neg (show ¬ (1 : Int32) ≤ nI 0 by decide), Nat.div_zero]
    rfl
  · rw [if_pos (t_le1 (by omega) hs), nI_l ht, nI_l ha, nI_l hs, lN_mul, pk_lDiv (t_mulb ht ha) (by omega) (by omega), lN_i]
theorem t_cmp0 {n : Nat} (h : n < 2 ^ 62) : lg_cmp (lN n) 0 = 0 ↔ n = 0 := by
  rw [lg_cmp_eq]
  exact pk_lEQ (a := n) (b := 0) (by omega) (by decide)
theorem t_tinOf {r t a : Nat} (hr : r < 2 ^ 31) (ht : t < 2 ^ 31) (ha : a < 2 ^ 31) : q_tinOf (nI r) (nI t) (nI a) = nI (tT r t a) := by
  unfold q_tinOf tT
  rw [nI_l hr, nI_l ht, nI_l ha, lN_add, lN_mul]
  by_cases c : r + t = 0
  · rw [if_pos ((t_cmp0 (by omega)).mpr c), c, Nat.div_zero]
    rfl
  · rw [if_neg (fun h => c ((t_cmp0 (by omega)).mp h)), pk_lDiv (t_mulb ht ha) (by omega) (by omega), lN_i]
theorem t_ai (x y z : Int32) : x + (y - z) = x - (z - y) := by grind
theorem t_an (x y : Int32) : x + -y = x - y := by grind
theorem q_put_ne {m : ZM} {n k : ZN} {a b : Int32} (h : k ≠ n) : q_put m n a b k = m k := by
  unfold q_put
  rw [zs_ne h, zs_ne h]
theorem q_put_0 {m : ZM} {n : ZN} {a b : Int32} : q_put m n a b n 0 = m n 0 + a := by
  unfold q_put
  rw [zs_ej (by decide), zs_eq rfl]
theorem q_put_1 {m : ZM} {n : ZN} {a b : Int32} : q_put m n a b n 1 = m n 1 + b := by
  unfold q_put
  rw [zs_eq rfl, zs_ej (by decide)]
theorem q_move_ne {m : ZM} {n v k : ZN} {a : Int32} (h : k ≠ n) (h2 : k ≠ v) : q_move m n v a k = m k := by
  unfold q_move
  split
  · rw [q_put_ne h, q_put_ne h2]
  · rfl
/-- moving ore, in the class -/
theorem t_move {m : ZM} {n v : ZN} {r t vr vt X : Nat} (hn : n ≠ v) (h0 : m n 0 = nI r) (h1 : m n 1 = nI t) (h2 : m v 0 = nI vr) (h3 : m v 1 = nI vt) (hb : r + t < 2 ^ 31) (hX : X < 2 ^ 31) {a : Nat} (ha : a = min X (r + t)) :
    q_moveR m n (nI X) = nI a ∧ q_move m n v (nI X) n 0 = nI (r - (a - tT r t a)) ∧ q_move m n v (nI X) n 1 = nI (t - tT r t a) ∧ q_move m n v (nI X) v 0 = nI (vr + (a - tT r t a)) ∧ q_move m n v (nI X) v 1 = nI (vt + tT r t a) := by
  have la : a ≤ r + t := by omega
  have eA : q_moveA m n (nI X) = nI a := by
    unfold q_moveA q_whole
    rw [h0, h1, nI_add, t_min hX hb, ha]
  have eT : q_moveT m n (nI X) = nI (tT r t a) := by
    unfold q_moveT q_whole
    rw [eA, h0, h1, nI_add, t_part (by omega) (by omega) (by omega)]
    rfl
  have lT := tT_t la
  have lA := tT_a (r := r) (t := t) (a := a)
  have lR := tT_r la
  unfold q_moveR q_move
  rw [eA, eT]
  by_cases c : a = 0
  · have e0 : tT r t a = 0 := by rw [c]; exact tT_0
    have hc : ¬ (1 : Int32) ≤ nI a := by rw [c]; decide
    refine ⟨(if_neg hc).trans ((congrArg nI c).trans nI_0).symm, ?_, ?_, ?_, ?_⟩
    · rw [if_neg hc, h0, show r - (a - tT r t a) = r by omega]
    · rw [if_neg hc, h1, show t - tT r t a = t by omega]
    · rw [if_neg hc, h2, show vr + (a - tT r t a) = vr by omega]
    · rw [if_neg hc, h3, show vt + tT r t a = vt by omega]
  · have hc : (1 : Int32) ≤ nI a := t_le1 (by omega) (by omega)
    refine ⟨if_pos hc, ?_, ?_, ?_, ?_⟩
    · rw [if_pos hc, q_put_0, q_put_ne hn, h0, t_ai, pk_sub lA, pk_sub lR]
    · rw [if_pos hc, q_put_1, q_put_ne hn, h1, t_an, pk_sub lT]
    · rw [if_pos hc, q_put_ne hn.symm, q_put_0, h2, pk_sub lA, nI_add]
    · rw [if_pos hc, q_put_ne hn.symm, q_put_1, h3, nI_add]
theorem zs_o {m : ZM} {n k : ZN} {j i : Nat} {x : Int32} (h : ¬ (k = n ∧ i = j)) : zs m n j x k i = m k i := by
  by_cases e : k = n
  · subst e
    exact zs_ej (fun q => h ⟨rfl, q⟩)
  · rw [zs_ne e]
theorem q_mv_o {m : ZM} {n v k : ZN} {i j c : Nat} {x : Int32} (h1 : ¬ (k = n ∧ (c = i ∨ c = i + 1))) (h2 : ¬ (k = v ∧ (c = j ∨ c = j + 1))) : q_mv m n i v j x k c = m k c := by
  unfold q_mv
  rw [zs_o (fun q => h2 ⟨q.1, Or.inr q.2⟩), zs_o (fun q => h2 ⟨q.1, Or.inl q.2⟩), zs_o (fun q => h1 ⟨q.1, Or.inr q.2⟩), zs_o (fun q => h1 ⟨q.1, Or.inl q.2⟩)]
/-- moving ore, in the reference: between two rows -/
theorem t_mvd {m : ZM} {n v : ZN} {i j r t vr vt a : Nat} (hn : n ≠ v) (h0 : m n i = nI r) (h1 : m n (i + 1) = nI t) (h2 : m v j = nI vr) (h3 : m v (j + 1) = nI vt) (hb : r + t < 2 ^ 31) (la : a ≤ r + t) :
    q_mv m n i v j (nI a) n i = nI (r - (a - tT r t a)) ∧ q_mv m n i v j (nI a) n (i + 1) = nI (t - tT r t a) ∧ q_mv m n i v j (nI a) v j = nI (vr + (a - tT r t a)) ∧ q_mv m n i v j (nI a) v (j + 1) = nI (vt + tT r t a) := by
  have lT := tT_t la
  have lA := tT_a (r := r) (t := t) (a := a)
  have lR := tT_r la
  have eT : q_tinOf (m n i) (m n (i + 1)) (nI a) = nI (tT r t a) := by rw [h0, h1]; exact t_tinOf (by omega) (by omega) (by omega)
  unfold q_mv
  rw [eT]
  refine ⟨?_, ?_, ?_, ?_⟩
  · rw [zs_ne hn, zs_ne hn, zs_ej (show i ≠ i + 1 by omega), zs_eq rfl, h0, pk_sub lA, pk_sub lR]
  · rw [zs_ne hn, zs_ne hn, zs_eq rfl, zs_ej (show i + 1 ≠ i by omega), h1, pk_sub lT]
  · rw [zs_ej (show j ≠ j + 1 by omega), zs_eq rfl, zs_ne hn.symm, zs_ne hn.symm, h2, pk_sub lA, nI_add]
  · rw [zs_eq rfl, zs_ej (show j + 1 ≠ j by omega), zs_ne hn.symm, zs_ne hn.symm, h3, nI_add]
/-- .. and within one row, to the next pair -/
theorem t_mvs {m : ZM} {n : ZN} {i r t vr vt a : Nat} (h0 : m n i = nI r) (h1 : m n (i + 1) = nI t) (h2 : m n (i + 2) = nI vr) (h3 : m n (i + 2 + 1) = nI vt) (hb : r + t < 2 ^ 31) (la : a ≤ r + t) :
    q_mv m n i n (i + 2) (nI a) n i = nI (r - (a - tT r t a)) ∧ q_mv m n i n (i + 2) (nI a) n (i + 1) = nI (t - tT r t a) ∧ q_mv m n i n (i + 2) (nI a) n (i + 2) = nI (vr + (a - tT r t a)) ∧ q_mv m n i n (i + 2) (nI a) n (i + 2 + 1) = nI (vt + tT r t a) := by
  have lT := tT_t la
  have lA := tT_a (r := r) (t := t) (a := a)
  have lR := tT_r la
  have eT : q_tinOf (m n i) (m n (i + 1)) (nI a) = nI (tT r t a) := by rw [h0, h1]; exact t_tinOf (by omega) (by omega) (by omega)
  unfold q_mv
  rw [eT]
  refine ⟨?_, ?_, ?_, ?_⟩
  · rw [zs_ej (show i ≠ i + 2 + 1 by omega), zs_ej (show i ≠ i + 2 by omega), zs_ej (show i ≠ i + 1 by omega), zs_eq rfl, h0, pk_sub lA, pk_sub lR]
  · rw [zs_ej (show i + 1 ≠ i + 2 + 1 by omega), zs_ej (show i + 1 ≠ i + 2 by omega), zs_eq rfl, zs_ej (show i + 1 ≠ i by omega), h1, pk_sub lT]
  · rw [zs_ej (show i + 2 ≠ i + 2 + 1 by omega), zs_eq rfl, zs_ej (show i + 2 ≠ i + 1 by omega), zs_ej (show i + 2 ≠ i by omega), h2, pk_sub lA, nI_add]
  · rw [zs_eq rfl, zs_ej (show i + 2 + 1 ≠ i + 2 by omega), zs_ej (show i + 2 + 1 ≠ i + 1 by omega), zs_ej (show i + 2 + 1 ≠ i by omega), h3, nI_add]
theorem z7_ne {w a b : Nat} (h : a ≠ b) : ((7, w, a) : ZN) ≠ (7, w, b) := fun e => h (by injection e with _ e2; injection e2)
theorem z6_ne {w a b : Nat} (h : a ≠ b) : ((6, w, a) : ZN) ≠ (6, w, b) := fun e => h (by injection e with _ e2; injection e2)
theorem z4b_ne {w a b : Nat} (h : a ≠ b) : ((4, w, a) : ZN) ≠ (4, w, b) := fun e => h (by injection e with _ e2; injection e2)
