/-! what reading calls answer, side by side -/
theorem t_isIn_lo {x a b : Int32} (h : x < a) : q_isIn x a b = 0 := if_pos h
theorem t_isIn_hi {x a b : Int32} (h : b < x) : q_isIn x a b = 0 := by
  unfold q_isIn
  by_cases c : x < a
  · rw [if_pos c]
  · rw [if_neg c, if_pos h]
theorem t_isIn {x a b : Int32} (h : ¬ x < a) (h2 : ¬ b < x) : ¬ q_isIn x a b = 0 := by
  unfold q_isIn
  rw [if_neg h, if_neg h2]
  decide
theorem t_nlt {x a b : Int32} (h : b.toInt = a.toInt + 1) (c : ¬ x < b) : a < x := by
  rw [Int32.lt_iff_toInt_lt] at c ⊢
  omega
theorem t_ltn {x a b : Int32} (h : b.toInt = a.toInt + 1) (c : x < b) : ¬ a < x := by
  rw [Int32.lt_iff_toInt_lt] at c ⊢
  omega
theorem t_nle {x a : Int32} (c : ¬ x ≤ a) : a < x := by
  rw [Int32.le_iff_toInt_le] at c
  rw [Int32.lt_iff_toInt_lt]
  omega
theorem t_len {x a : Int32} (c : x ≤ a) : ¬ a < x := by
  rw [Int32.le_iff_toInt_le] at c
  rw [Int32.lt_iff_toInt_lt]
  omega
theorem t_pred {n : Nat} (h : n < 2 ^ 30) : (nI n).toInt = (nI n - 1).toInt + 1 := by
  have e := pk_sub_toInt (a := n) (b := 1) h (by decide)
  have e2 := nI_toInt (n := n) (by omega)
  have e3 : (nI n - 1).toInt = (n : Int) - 1 := e
  omega
/-- an index of a box, of a stamp, of a lot: in range on both sides, or on neither -/
theorem t_box {b : Int32} {n : Nat} (h : n < 2 ^ 30) (c : q6_bn b n = 0) : ¬ q_isIn b 0 (nI n - 1) = 0 := by
  unfold q6_bn at c
  by_cases c1 : b < 0
  · rw [if_pos c1] at c; cases c
  by_cases c2 : b < nI n
  · exact t_isIn c1 (t_ltn (t_pred h) c2)
  · rw [if_neg c1, if_neg c2] at c; cases c
theorem t_nbox {b : Int32} {n : Nat} (h : n < 2 ^ 30) (c : ¬ q6_bn b n = 0) : q_isIn b 0 (nI n - 1) = 0 ∧ q6_bn b n = 1 := by
  refine ⟨?_, q6_bn_k.resolve_left c⟩
  unfold q6_bn at c
  by_cases c1 : b < 0
  · exact t_isIn_lo c1
  by_cases c2 : b < nI n
  · rw [if_neg c1, if_pos c2] at c; exact absurd rfl c
  · exact t_isIn_hi (t_nlt (t_pred h) c2)
theorem t_ud {b : Int32} (c : q6_ud b = 0) : ¬ q_isIn b 0 2 = 0 := by
  unfold q6_ud at c
  by_cases c1 : b < 0
  · rw [if_pos c1] at c; cases c
  by_cases c2 : b < 3
  · exact t_isIn c1 (t_ltn rfl c2)
  · rw [if_neg c1, if_neg c2] at c; cases c
theorem t_nud {b : Int32} (c : ¬ q6_ud b = 0) : q_isIn b 0 2 = 0 ∧ q6_ud b = 1 := by
  refine ⟨?_, q6_ud_k.resolve_left c⟩
  unfold q6_ud at c
  by_cases c1 : b < 0
  · exact t_isIn_lo c1
  by_cases c2 : b < 3
  · rw [if_neg c1, if_pos c2] at c; exact absurd rfl c
  · exact t_isIn_hi (t_nlt rfl c2)
theorem t_grade {r t : Nat} (h : r + t < 2 ^ 31) : q_gradeOf (nI r) (nI t) = nI (t * 1000 / (r + t)) ∧ q8_grade (nI r).toInt64 (nI t).toInt64 = nI (t * 1000 / (r + t)) := by
  refine ⟨?_, ?_⟩
  · unfold q_gradeOf
    rw [nI_add]
    exact t_part (a := 1000) (by omega) (by decide) h
  · unfold q8_grade
    rw [nI_l (by omega), nI_l (by omega), lN_add]
    by_cases c : r + t = 0
    · rw [if_pos ((t_cmp0 (by omega)).mpr c), c, Nat.div_zero]
      rfl
    · rw [if_neg (fun q => c ((t_cmp0 (by omega)).mp q)), show lN t * 1000 = lN (t * 1000) from lN_mul t 1000, pk_lDiv (t_mulb (by omega) (by decide)) (by omega) (by omega), lN_i]
section TA
variable {ma mb : ZM} {n bc hq f c : Nat} {sc bu : Nat → Nat}
theorem rq_box (R : RQ ma mb n bc sc bu hq f c) {b : Nat} (hb : b < bc) : ∃ N, tB ma mb 0 b (sc b) (bu b) N := by
  obtain ⟨z, N, -, -, h, -⟩ := R.2.1.2.2.2.2.2.2.2.2.2.2
  exact ⟨N b, h b hb⟩
theorem rq_bud (R : RQ ma mb n bc sc bu hq f c) {u : Nat} (hu : u < 3) : tU ma mb 0 u := R.2.1.2.2.2.2.2.2.2.2.1 u hu
theorem rq_in (R : RQ ma mb n bc sc bu hq f c) {h : Nat} (hh : h < 24) : ∃ a, a ≤ 900 ∧ ma (2, 0, 24) h = nI a ∧ mb (2, 10 + 20 * 0, 24) h = nI a := R.2.1.2.2.2.2.2.2.2.1 h hh
theorem rq_slime (R : RQ ma mb n bc sc bu hq f c) : ∃ z, z ≤ 1200 * hq ∧ ma (1, 0, 0) 10 = nI z ∧ mb (13, 0, 0) 17 = nI z := by
  obtain ⟨z, N, h1, h2, -, h4⟩ := R.2.1.2.2.2.2.2.2.2.2.2.2
  exact ⟨z, by omega, h1, h2⟩
theorem ans_wears {b s : Nat} (hS : tSt ma mb 0 b s) : q_wears ma 0 b s = q8_wears mb b s := bx_sum_c (fun k hk => by
  obtain ⟨p, q, u, -, -, x2, -, -, y2, -⟩ := hS k hk
  exact x2.trans y2.symm)
set_option maxHeartbeats 2000000 in
theorem ans_box (R : RQ ma mb n bc sc bu hq f c) {b k : Nat} (hb : b < bc) (hk : k ≤ 11) : q_tellBox ma 0 b (sc b) (nI k) = q8_boxTold mb sc b k := by
  obtain ⟨N, g1, g2, g3, g4, g5, g6, ⟨Fd, g7, g8, g9⟩, ⟨h, g10, g11, g12, g13⟩, ⟨Fo, g14, g15, g16⟩, hS, lr, lt, gr, gt, sr, st, ⟨⟨x0, x1, x2, x3⟩, ⟨y0, y1, y2, y3⟩, z0, z1, z2, z3⟩, -⟩ := rq_box R hb
  unfold q_tellBox q8_boxTold q8_told2
  rcases (show k = 0 ∨ k = 1 ∨ k = 2 ∨ k = 3 ∨ k = 4 ∨ k = 5 ∨ k = 6 ∨ k = 7 ∨ k = 8 ∨ k = 9 ∨ k = 10 ∨ k = 11 by omega) with rfl | rfl | rfl | rfl | rfl | rfl | rfl | rfl | rfl | rfl | rfl | rfl
  · rw [if_pos (by decide), if_pos (by decide), if_neg (by decide), if_pos (by decide), g1, g2]
  · rw [if_neg (by decide), if_pos (by decide), if_pos (by decide), if_neg (by decide), if_neg (by decide), if_pos (by decide), g8, g9]
  · rw [if_neg (by decide), if_neg (by decide), if_pos (by decide), if_pos (by decide), if_neg (by decide), if_neg (by decide), if_neg (by decide), if_pos (by decide), g4, g5]
  · rw [if_neg (by decide), if_neg (by decide), if_neg (by decide), if_pos (by decide), if_pos (by decide), if_neg (by decide), if_neg (by decide), if_neg (by decide), if_neg (by decide), if_pos (by decide), g12, g13]
  · rw [if_neg (by decide), if_neg (by decide), if_neg (by decide), if_neg (by decide), if_pos (by decide), if_neg (by decide), if_neg (by decide), if_pos (by decide), show 2 * (3 * b + (4 - 4) % 3) + 0 = 2 * (3 * b) by omega, x0, x2]
  · rw [if_neg (by decide), if_neg (by decide), if_neg (by decide), if_neg (by decide), if_neg (by decide), if_pos (by decide), if_neg (by decide), if_neg (by decide), if_pos (by decide), show 2 * (3 * b + (5 - 4) % 3) + 0 = 2 * (3 * b + 1) by omega, y0, y2]
  · rw [if_neg (by decide), if_neg (by decide), if_neg (by decide), if_neg (by decide), if_neg (by decide), if_neg (by decide), if_pos (by decide), if_neg (by decide), if_neg (by decide), if_pos (by decide), show 2 * (3 * b + (6 - 4) % 3) + 0 = 2 * (3 * b + 2) by omega, z0, z2]
  · rw [if_neg (by decide), if_neg (by decide), if_neg (by decide), if_neg (by decide), if_neg (by decide), if_neg (by decide), if_neg (by decide), if_pos (by decide), if_neg (by decide), if_neg (by decide), if_neg (by decide), show 2 * (3 * b + (7 - 4) % 3) + 1 = 2 * (3 * b) + 1 by omega, x1, x3]
  · rw [if_neg (by decide), if_neg (by decide), if_neg (by decide), if_neg (by decide), if_neg (by decide), if_neg (by decide), if_neg (by decide), if_neg (by decide), if_pos (by decide), if_neg (by decide), if_neg (by decide), if_neg (by decide), show 2 * (3 * b + (8 - 4) % 3) + 1 = 2 * (3 * b + 1) + 1 by omega, y1, y3]
  · rw [if_neg (by decide), if_neg (by decide), if_neg (by decide), if_neg (by decide), if_neg (by decide), if_neg (by decide), if_neg (by decide), if_neg (by decide), if_neg (by decide), if_pos (by decide), if_neg (by decide), if_neg (by decide), if_neg (by decide), show 2 * (3 * b + (9 - 4) % 3) + 1 = 2 * (3 * b + 2) + 1 by omega, z1, z3]
  · rw [if_neg (by decide), if_neg (by decide), if_neg (by decide), if_neg (by decide), if_neg (by decide), if_neg (by decide), if_neg (by decide), if_neg (by decide), if_neg (by decide), if_neg (by decide), if_pos (by decide), if_neg (by decide), if_pos (by decide), if_pos (by decide)]
    exact ans_wears hS
  · rw [if_neg (by decide), if_neg (by decide), if_neg (by decide), if_neg (by decide), if_neg (by decide), if_neg (by decide), if_neg (by decide), if_neg (by decide), if_neg (by decide), if_neg (by decide), if_neg (by decide), if_neg (by decide), if_pos (by decide), if_neg (by decide), if_neg (by decide), if_neg (by decide), if_neg (by decide), if_neg (by decide), g15, g16]
theorem ans_lot (R : RQ ma mb n bc sc bu hq f c) {j k : Nat} (hj : j < c) (hk : k ≤ 2) : q_tellLot ma 0 ((f + j) % 30) (nI k) = mb (2, 20 + 20 * 0, 90) (3 * j + k) := by
  obtain ⟨r, t, h, x0, x1, x2, x3, x4, x5, -⟩ := R.2.2.1.2.2.2.2.2 j hj
  unfold q_tellLot q_tellOre
  rcases (show k = 0 ∨ k = 1 ∨ k = 2 by omega) with rfl | rfl | rfl
  · rw [if_neg (by decide), if_pos (by decide), x0]; exact x3.symm
  · rw [if_neg (by decide), if_neg (by decide), if_pos (by decide), x1]; exact x4.symm
  · rw [if_pos (by decide), x2]; exact x5.symm
theorem ans_bud (R : RQ ma mb n bc sc bu hq f c) {u k : Nat} (hu : u < 3) (hk : k ≤ 2) : q_tellOre ma (7, 0, 42 + u) (nI k) = q8_budTold mb u k := by
  obtain ⟨r, t, h, x0, x1, x3, x4⟩ := rq_bud R hu
  unfold q_tellOre q8_budTold
  rcases (show k = 0 ∨ k = 1 ∨ k = 2 by omega) with rfl | rfl | rfl
  · rw [if_pos (by decide), if_neg (by decide), x0]; exact x3.symm
  · rw [if_neg (by decide), if_pos (by decide), if_neg (by decide), x1]; exact x4.symm
  · rw [if_neg (by decide), if_neg (by decide), if_pos (by decide), x0, x1, x3, x4, (t_grade (by omega)).1, (t_grade (by omega)).2]
theorem ans_hop {w : Nat} (hL : tL ma mb w f c) : q_oreLots ma w f c = q_inHop mb w c := bx_sum_c (fun k hk => by
  obtain ⟨r, t, h, x0, x1, x2, x3, x4, x5, -⟩ := hL.2.2.2.2.2 k hk
  unfold q_whole q_pair
  rw [x0, x1, x3, x4])
theorem ans_tin {sc bu N : Nat → Nat} (hB : ∀ b, b < bc → tB ma mb 0 b (sc b) (bu b) (N b)) : ∀ k, k ≤ bc → q_tinBoxes ma 0 k = q8_tinIn mb (3 * k) := by
  intro k
  induction k with
  | zero => intro _; rfl
  | succ k ih =>
    intro hk
    obtain ⟨g1, g2, g3, g4, g5, g6, g7, g8, g9, hS, lr, lt, gr, gt, sr, st, ⟨⟨x0, x1, x2, x3⟩, ⟨y0, y1, y2, y3⟩, z0, z1, z2, z3⟩, -⟩ := hB k (by omega)
    have e1 : q_tinBoxes ma 0 (k + 1) = q_tinBoxes ma 0 k + q_tinSizes ma 0 k := rfl
    have e2 : q8_tinIn mb (3 * k + 1 + 1 + 1) = q8_tinIn mb (3 * k) + mb (2, 19 + 20 * 0, 24) (2 * (3 * k) + 1) + mb (2, 19 + 20 * 0, 24) (2 * (3 * k + 1) + 1) + mb (2, 19 + 20 * 0, 24) (2 * (3 * k + 1 + 1) + 1) := rfl
    rw [show 3 * (k + 1) = 3 * k + 1 + 1 + 1 by omega, e1, e2, ih (by omega)]
    unfold q_tinSizes
    rw [x1, y1, z1, x3, y3, z3]
    generalize q8_tinIn mb (3 * k) = a
    grind
set_option maxHeartbeats 2000000 in
theorem ans_count (R : RQ ma mb n bc sc bu hq f c) {k : Nat} (hk : k ≤ 13) : q_tellWorks ma 0 bc sc f c (nI k) = q8_cells mb bc c sc k := by
  obtain ⟨q1, ⟨r1, r2, r3, r4, r5, ⟨P, p1, p2, p3⟩, ⟨s, s1, s2, s3⟩, r8, r9, -, z, N, r11, r12, r13, r14⟩, q3, q4, q5, ⟨sr, st, tr, tt, mt, z1, z2, z3, z4, z5, z6, z7, z8, z9, z10, z11⟩, q7⟩ := R
  obtain ⟨K, k1, k2, k3, k4⟩ := t_load (sc' := sc) r13 (fun _ _ => rfl) bc (Nat.le_refl _)
  unfold q_tellWorks
  rcases (show k = 0 ∨ k = 1 ∨ k = 2 ∨ k = 3 ∨ k = 4 ∨ k = 5 ∨ k = 6 ∨ k = 7 ∨ k = 8 ∨ k = 9 ∨ k = 10 ∨ k = 11 ∨ k = 12 ∨ k = 13 by omega) with rfl | rfl | rfl | rfl | rfl | rfl | rfl | rfl | rfl | rfl | rfl | rfl | rfl | rfl
  · rw [if_pos (by decide), show q8_cells mb bc c sc 0 = mb (13, 0, 0) 0 from rfl, r4, r5]
  · rw [if_neg (by decide), if_pos (by decide), show q8_cells mb bc c sc 1 = mb (13, 0, 0) 1 from rfl, p2, p3]
  · rw [if_neg (by decide), if_neg (by decide), if_pos (by decide), show q8_cells mb bc c sc 2 = mb (13, 0, 0) 2 from rfl, s2, s3]
  · rw [if_neg (by decide), if_neg (by decide), if_neg (by decide), if_pos (by decide), show q8_cells mb bc c sc 3 = mb (13, 0, 0) 4 from rfl, r1, r2]
  · rw [if_neg (by decide), if_neg (by decide), if_neg (by decide), if_neg (by decide), if_pos (by decide), show q8_cells mb bc c sc 4 = mb (13, 0, 0) 14 from rfl, q3.2.2.1, q3.2.2.2.1]
  · rw [if_neg (by decide), if_neg (by decide), if_neg (by decide), if_neg (by decide), if_neg (by decide), if_pos (by decide), show q8_cells mb bc c sc 5 = q_inHop mb 0 c from rfl]; exact ans_hop q3
  · rw [if_neg (by decide), if_neg (by decide), if_neg (by decide), if_neg (by decide), if_neg (by decide), if_neg (by decide), if_pos (by decide), show q8_cells mb bc c sc 6 = q_load7 mb 0 sc bc from rfl, k3, k4]
  · rw [if_neg (by decide), if_neg (by decide), if_neg (by decide), if_neg (by decide), if_neg (by decide), if_neg (by decide), if_neg (by decide), if_pos (by decide), show q8_cells mb bc c sc 7 = mb (2, 60, 2) 0 from rfl, z1, z3]
  · rw [if_neg (by decide), if_neg (by decide), if_neg (by decide), if_neg (by decide), if_neg (by decide), if_neg (by decide), if_neg (by decide), if_neg (by decide), if_pos (by decide), show q8_cells mb bc c sc 8 = mb (2, 60, 2) 1 from rfl, z2, z4]
  · rw [if_neg (by decide), if_neg (by decide), if_neg (by decide), if_neg (by decide), if_neg (by decide), if_neg (by decide), if_neg (by decide), if_neg (by decide), if_neg (by decide), if_pos (by decide), show q8_cells mb bc c sc 9 = mb (13, 0, 0) 17 from rfl, r11, r12]
  · rw [if_neg (by decide), if_neg (by decide), if_neg (by decide), if_neg (by decide), if_neg (by decide), if_neg (by decide), if_neg (by decide), if_neg (by decide), if_neg (by decide), if_neg (by decide), if_pos (by decide), show q8_cells mb bc c sc 10 = mb (12, 0, 0) 5 from rfl, z6, z8]
  · rw [if_neg (by decide), if_neg (by decide), if_neg (by decide), if_neg (by decide), if_neg (by decide), if_neg (by decide), if_neg (by decide), if_neg (by decide), if_neg (by decide), if_neg (by decide), if_neg (by decide), if_pos (by decide), show q8_cells mb bc c sc 11 = mb (12, 0, 0) 4 from rfl, z5, z7]
  · rw [if_neg (by decide), if_neg (by decide), if_neg (by decide), if_neg (by decide), if_neg (by decide), if_neg (by decide), if_neg (by decide), if_neg (by decide), if_neg (by decide), if_neg (by decide), if_neg (by decide), if_neg (by decide), if_pos (by decide), show q8_cells mb bc c sc 12 = mb (12, 0, 0) 6 from rfl, z9, z10]
  · rw [if_neg (by decide), if_neg (by decide), if_neg (by decide), if_neg (by decide), if_neg (by decide), if_neg (by decide), if_neg (by decide), if_neg (by decide), if_neg (by decide), if_neg (by decide), if_neg (by decide), if_neg (by decide), if_neg (by decide), show q8_cells mb bc c sc 13 = q8_tinIn mb (3 * bc) from rfl]; exact ans_tin r13 bc (Nat.le_refl _)
end TA
