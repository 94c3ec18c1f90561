/-! washing, smelting, looking ahead, in the reference -/
def q8_washL (m : ZM) (b : Nat) (x : Int32) : Int32 × Int32 := (m (2, 21 + 20 * 0, 6) (2 * b) - q8_headRock m b x, m (2, 21 + 20 * 0, 6) (2 * b + 1) - q8_headTin m b x)
def q8_washE (m : ZM) (b : Nat) (x lr lt : Int32) (m1 : ZM) : ZM :=
  let m2 := zs m1 (12, 0, 0) 5 (m1 (12, 0, 0) 5 + (lt - lt / 2))
  let m3 := zs m2 (12, 0, 0) 4 (m2 (12, 0, 0) 4 + (lr - lr / 2))
  let m4 := zs m3 (2, 60, 2) 0 (m3 (2, 60, 2) 0 + q8_headRock m b x)
  let m5 := zs m4 (2, 60, 2) 1 (m4 (2, 60, 2) 1 + q8_headTin m b x)
  zs (zs m5 (2, 21 + 20 * 0, 6) (2 * b) 0) (2, 21 + 20 * 0, 6) (2 * b + 1) 0
def q8_washM (m : ZM) (ln b : Nat) (x : Int32) : ZM :=
  if (q8_washL m b x).2 / 2 + (q8_washL m b x).1 / 2 ≤ 0 then q8_washE m b x (q8_washL m b x).1 (q8_washL m b x).2 m
  else q8_washE m b x (q8_washL m b x).1 (q8_washL m b x).2 (q_addLot7 m 0 ln ((q8_washL m b x).1 / 2) ((q8_washL m b x).2 / 2) 1)
def q8_wash (m : ZM) (ln : Nat) (b x : Int32) : Int32 × ZM :=
  if q_isIn b 0 2 = 0 then q8_t m 1 else if q_isIn x 10 90 = 0 then q8_t m 2 else if q_pair (q8_z m) (2, 21 + 20 * 0, 6) (2 * b.toNatClampNeg) = 0 then q8_t m 3 else if nI ln = 30 then q8_t m 3 else
    (q8_headTin (q8_z m) b.toNatClampNeg x, q8_washM (q8_z m) ln b.toNatClampNeg x)
theorem q8_wash_a {m : ZM} {ln b : Nat} {x : Int32} (h : (m (2, 21 + 20 * 0, 6) (2 * b + 1) - q8_headTin m b x) / 2 + (m (2, 21 + 20 * 0, 6) (2 * b) - q8_headRock m b x) / 2 ≤ 0) : q8_washM m ln b x = q8_washE m b x (m (2, 21 + 20 * 0, 6) (2 * b) - q8_headRock m b x) (m (2, 21 + 20 * 0, 6) (2 * b + 1) - q8_headTin m b x) m := if_pos h
theorem q8_wash_b {m : ZM} {ln b : Nat} {x : Int32} (h : ¬ (m (2, 21 + 20 * 0, 6) (2 * b + 1) - q8_headTin m b x) / 2 + (m (2, 21 + 20 * 0, 6) (2 * b) - q8_headRock m b x) / 2 ≤ 0) : q8_washM m ln b x = q8_washE m b x (m (2, 21 + 20 * 0, 6) (2 * b) - q8_headRock m b x) (m (2, 21 + 20 * 0, 6) (2 * b + 1) - q8_headTin m b x) (q_addLot7 m 0 ln ((m (2, 21 + 20 * 0, 6) (2 * b) - q8_headRock m b x) / 2) ((m (2, 21 + 20 * 0, 6) (2 * b + 1) - q8_headTin m b x) / 2) 1) := if_neg h
def q8_againP (m : ZM) (b : Nat) : Int32 := q_min (m (2, 60, 2) 0 + m (2, 60, 2) 1) (6000 - q_pair m (2, 21 + 20 * 0, 6) (2 * b))
def q8_again (m : ZM) (b : Int32) : Int32 × ZM :=
  if q_isIn b 0 2 = 0 then q8_t m 1 else (q8_againP (q8_z m) b.toNatClampNeg, q_mv (q8_z m) (2, 60, 2) 0 (2, 21 + 20 * 0, 6) (2 * b.toNatClampNeg) (q8_againP (q8_z m) b.toNatClampNeg))
def q8_smT (m : ZM) (x : Int32) : Int32 := q_tinOf (m (2, 60, 2) 0) (m (2, 60, 2) 1) x
def q8_take (m : ZM) (x : Int32) : ZM :=
  let m1 := zs m (2, 60, 2) 0 (m (2, 60, 2) 0 - (x - q8_smT m x))
  zs m1 (2, 60, 2) 1 (m1 (2, 60, 2) 1 - q8_smT m x)
theorem q8_take_k {m : ZM} {x : Int32} {k : ZN} (h : k.1 ≠ 2) (j : Nat) : q8_take m x k j = m k j := by
  unfold q8_take
  rw [zs_k h, zs_k h]
theorem zs_cong {m m1 : ZM} {n k : ZN} {j : Nat} {x : Int32} (h : m k = m1 k) : zs m n j x k = zs m1 n j x k := by
  unfold zs zu
  split
  · next e => subst e; rw [h]
  · exact h
theorem q_mv_v0 {m : ZM} {n v : ZN} {i j : Nat} {x : Int32} (h : v ≠ n) : q_mv m n i v j x v j = m v j + (x - q_tinOf (m n i) (m n (i + 1)) x) ∧ q_mv m n i v j x v (j + 1) = m v (j + 1) + q_tinOf (m n i) (m n (i + 1)) x := by
  unfold q_mv
  refine ⟨?_, ?_⟩
  · rw [zs_ej (show j ≠ j + 1 by omega), zs_eq rfl, zs_ne h, zs_ne h]
  · rw [zs_eq rfl, zs_ej (show j + 1 ≠ j by omega), zs_ne h, zs_ne h]
theorem q8_taken0 {m m1 : ZM} {x : Int32} (e : m1 = zu m (2, 71, 2) (fun _ => 0)) : q_mv m1 (2, 60, 2) 0 (2, 71, 2) 0 x (2, 71, 2) 0 = 0 + (x - q_tinOf (m (2, 60, 2) 0) (m (2, 60, 2) 1) x) := by
  rw [(q_mv_v0 (by decide)).1, e, zu_eq, zu_ne (by decide)]
theorem q8_taken1 {m m1 : ZM} {x : Int32} (e : m1 = zu m (2, 71, 2) (fun _ => 0)) : q_mv m1 (2, 60, 2) 0 (2, 71, 2) 0 x (2, 71, 2) 1 = 0 + q_tinOf (m (2, 60, 2) 0) (m (2, 60, 2) 1) x := by
  rw [(q_mv_v0 (j := 0) (by decide)).2, e, zu_eq, zu_ne (by decide)]
theorem q8_taken2 {m m1 : ZM} {x : Int32} (e : m1 = zu m (2, 71, 2) (fun _ => 0)) {k : ZN} (hk : k ≠ (2, 71, 2)) : q_mv m1 (2, 60, 2) 0 (2, 71, 2) 0 x k = q8_take m x k := by
  have h1 : m1 (2, 60, 2) = m (2, 60, 2) := by rw [e]; exact zu_ne (by decide)
  unfold q_mv q8_take q8_smT
  rw [zs_ne hk, zs_ne hk]
  by_cases h : k = (2, 60, 2)
  · subst h
    rw [zs_at, zs_at, zs_at, zs_at, h1]
  · rw [zs_ne h, zs_ne h, zs_ne h, zs_ne h, e, zu_ne hk]
def q8_smelt (m : ZM) (x : Int32) : Int32 × ZM :=
  if 1 ≤ x then if x ≤ q8_z m (2, 60, 2) 0 + q8_z m (2, 60, 2) 1 then
      if q8_grade (0 + (x - q8_smT (q8_z m) x)).toInt64 (0 + q8_smT (q8_z m) x).toInt64 < 400 then (0, zs (q8_take (q8_z m) x) (12, 0, 0) 6 (q8_z m (12, 0, 0) 6 + 0))
      else ((0 + q8_smT (q8_z m) x) * 9 / 10, zs (q8_take (q8_z m) x) (12, 0, 0) 6 (q8_z m (12, 0, 0) 6 + (0 + q8_smT (q8_z m) x) * 9 / 10))
    else q8_t m 2 else q8_t m 1
theorem q8_smelt_a {m : ZM} {x : Int32} (c1 : 1 ≤ x) (c2 : x ≤ zs m (12, 0, 0) 0 0 (2, 60, 2) 0 + zs m (12, 0, 0) 0 0 (2, 60, 2) 1) (c3 : q8_grade (0 + (x - q_tinOf (zs m (12, 0, 0) 0 0 (2, 60, 2) 0) (zs m (12, 0, 0) 0 0 (2, 60, 2) 1) x)).toInt64 (0 + q_tinOf (zs m (12, 0, 0) 0 0 (2, 60, 2) 0) (zs m (12, 0, 0) 0 0 (2, 60, 2) 1) x).toInt64 < 400) : q8_smelt m x = (0, zs (q8_take (zs m (12, 0, 0) 0 0) x) (12, 0, 0) 6 (zs m (12, 0, 0) 0 0 (12, 0, 0) 6 + 0)) := by
  unfold q8_smelt q8_smT q8_z
  rw [if_pos c1, if_pos c2, if_pos c3]
theorem q8_smelt_b {m : ZM} {x : Int32} (c1 : 1 ≤ x) (c2 : x ≤ zs m (12, 0, 0) 0 0 (2, 60, 2) 0 + zs m (12, 0, 0) 0 0 (2, 60, 2) 1) (c3 : ¬ q8_grade (0 + (x - q_tinOf (zs m (12, 0, 0) 0 0 (2, 60, 2) 0) (zs m (12, 0, 0) 0 0 (2, 60, 2) 1) x)).toInt64 (0 + q_tinOf (zs m (12, 0, 0) 0 0 (2, 60, 2) 0) (zs m (12, 0, 0) 0 0 (2, 60, 2) 1) x).toInt64 < 400) : q8_smelt m x = ((0 + q_tinOf (zs m (12, 0, 0) 0 0 (2, 60, 2) 0) (zs m (12, 0, 0) 0 0 (2, 60, 2) 1) x) * 9 / 10, zs (q8_take (zs m (12, 0, 0) 0 0) x) (12, 0, 0) 6 (zs m (12, 0, 0) 0 0 (12, 0, 0) 6 + (0 + q_tinOf (zs m (12, 0, 0) 0 0 (2, 60, 2) 0) (zs m (12, 0, 0) 0 0 (2, 60, 2) 1) x) * 9 / 10)) := by
  unfold q8_smelt q8_smT q8_z
  rw [if_pos c1, if_pos c2, if_neg c3]
theorem zcp_ne {m : ZM} {n v k : ZN} {len : Nat} (h : k ≠ v) : zcp m n v len k = m k := zu_ne h
theorem zcp_at {m : ZM} {n v : ZN} {len j : Nat} (h : j < len) : zcp m n v len v j = m n j := by
  unfold zcp
  rw [zu_eq]
  unfold va_cpy
  rw [if_pos ⟨Nat.zero_le _, by omega⟩]
  congr 1
  omega
theorem q_cps_k {w v : Nat} {k : ZN} (h : k.1 ≠ 2) : ∀ {q : List (Nat × Nat)} {m : ZM}, q_cps m w v q k = m k := by
  intro q
  induction q with
  | nil => intro m; rfl
  | cons a q ih => intro m; rw [q_cps, ih, zcp_k h]
/-- an array that isn't copied to stays -/
theorem q_cps_ne {w v : Nat} {k : ZN} : ∀ {q : List (Nat × Nat)} {m : ZM}, (∀ a ∈ q, k ≠ (2, a.1 + 20 * w, a.2)) → q_cps m w v q k = m k := by
  intro q
  induction q with
  | nil => intro m _; rfl
  | cons a q ih =>
    intro m h
    rw [q_cps, ih (fun x hx => h x (List.mem_cons_of_mem _ hx)), zcp_ne (h a List.mem_cons_self)]
/-- an array that is copied once holds what the other one holds -/
theorem q_cps_at {w v a len j : Nat} (hj : j < len) (hwv : w ≠ v) : ∀ {q : List (Nat × Nat)} {m : ZM}, (a, len) ∈ q → (∀ x ∈ q, 10 ≤ x.1 ∧ x.1 < 30) → q.Pairwise (fun x y => x.1 ≠ y.1) → w < 2 → v < 2 → q_cps m w v q (2, a + 20 * w, len) j = m (2, a + 20 * v, len) j := by
  intro q
  induction q with
  | nil => intro m h; cases h
  | cons b q ih =>
    intro m h hb hp hw hv
    rw [q_cps]
    obtain ⟨hp1, hp2⟩ := List.pairwise_cons.mp hp
    rcases List.mem_cons.mp h with rfl | h
    · rw [q_cps_ne (fun x hx => z2_ne (by have := hp1 x hx; dsimp only at this; omega))]
      exact zcp_at hj
    · have h1 := hb (a, len) (List.mem_cons_of_mem _ h)
      have h2 := hb b List.mem_cons_self
      have h3 : b.1 ≠ a := hp1 (a, len) h
      dsimp only at h1
      rw [ih h (fun x hx => hb x (List.mem_cons_of_mem _ hx)) hp2 hw hv, zcp_ne (z2_ne (by omega))]
def q_cpl : List (Nat × Nat) := [(10, 24), (11, 4), (12, 16), (13, 16), (14, 16), (15, 4), (16, 4), (17, 4), (18, 4), (19, 24), (20, 90), (21, 6)]
theorem q_become7_2 {m : ZM} {a len j : Nat} (h : (a, len) ∈ q_cpl) (hj : j < len) : q_become7 m 1 0 (2, a + 20 * 1, len) j = m (2, a + 20 * 0, len) j := by
  unfold q_become7
  show q_cps _ 1 0 q_cpl (2, a + 20 * 1, len) j = _
  rw [q_cps_at hj (by decide) h (by decide) (by decide) (by decide) (by decide), zs_k (zk rfl), zs_k (zk rfl), zs_k (zk rfl), zs_k (zk rfl), zs_k (zk rfl), zs_k (zk rfl)]
theorem q_become7_13 {m : ZM} {j : Nat} (h : j = 0 ∨ j = 1 ∨ j = 2 ∨ j = 4 ∨ j = 14 ∨ j = 17) : q_become7 m 1 0 (13, 1, 0) j = m (13, 0, 0) j := by
  unfold q_become7
  rw [q_cps_k (zk rfl)]
  have e : ∀ (m : ZM) (i : Nat) (x : Int32) (j : Nat), zs m (13, 1, 0) i x (13, 0, 0) j = m (13, 0, 0) j := fun m i x j => by rw [zs_ne (by decide)]
  simp only [e]
  rcases h with rfl | rfl | rfl | rfl | rfl | rfl
  · rw [zs_ej (by decide), zs_ej (by decide), zs_ej (by decide), zs_ej (by decide), zs_ej (by decide), zs_eq rfl]
  · rw [zs_ej (by decide), zs_ej (by decide), zs_ej (by decide), zs_ej (by decide), zs_eq rfl]
  · rw [zs_ej (by decide), zs_ej (by decide), zs_ej (by decide), zs_eq rfl]
  · rw [zs_ej (by decide), zs_ej (by decide), zs_eq rfl]
  · rw [zs_ej (by decide), zs_eq rfl]
  · rw [zs_eq rfl]
/-- what isn't of the state ahead -/
def zah (k : ZN) : Prop := k ≠ (13, 1, 0) ∧ ∀ a len : Nat, (a, len) ∈ q_cpl → k ≠ (2, a + 20 * 1, len)
theorem q_become7_o {m : ZM} {k : ZN} (h : zah k) : q_become7 m 1 0 k = m k := by
  unfold q_become7
  show q_cps _ 1 0 q_cpl k = _
  rw [q_cps_ne (fun a ha => h.2 a.1 a.2 ha), zs_ne h.1, zs_ne h.1, zs_ne h.1, zs_ne h.1, zs_ne h.1, zs_ne h.1]
theorem q_row7_c {m m1 : ZM} {w v b n : Nat} (hb : 4 * b + n ≤ 16) (h1 : ∀ j, j < 16 → m1 (2, 12 + 20 * w, 16) j = m (2, 12 + 20 * v, 16) j) (h2 : ∀ j, j < 16 → m1 (2, 13 + 20 * w, 16) j = m (2, 13 + 20 * v, 16) j) : q_row7 m1 w b n = q_row7 m v b n := by
  unfold q_row7
  exact bx_sum_c (fun k hk => by rw [h1 _ (by omega), h2 _ (by omega)])
theorem gS_become {m : ZM} {bc hq : Nat} {sc go : Nat → Nat} (G : gS m 0 bc sc go hq) : gS (q_become7 m 1 0) 1 bc sc go hq := by
  obtain ⟨h1, h2, h3, h4, ⟨ln, h5, h6, h7⟩, h8, h9, h10⟩ := G
  refine ⟨by rw [q_become7_13 (by decide)]; exact h1, h2, fun b hb => ?_, fun b hb => ?_, ⟨ln, by rw [q_become7_13 (by decide)]; exact h5, h6, fun j hj => ?_⟩, by rw [q_become7_13 (by decide)]; exact h8, h9, ?_⟩
  · rw [q_become7_2 (a := 11) (len := 4) (by decide) hb, q_become7_2 (a := 16) (len := 4) (by decide) hb]
    exact h3 b hb
  · rw [q_become7_2 (a := 17) (len := 4) (by decide) (by omega)]
    exact h4 b hb
  · rw [q_become7_2 (a := 20) (len := 90) (by decide) (by omega)]
    exact h7 j hj
  · have e : ∀ n, n ≤ 4 → q_load7 (q_become7 m 1 0) 1 sc n = q_load7 m 0 sc n := by
      intro n
      induction n with
      | zero => intro _; rfl
      | succ n ih =>
        intro hn
        have := (h3 n (by omega)).2.1
        rw [q_load7, q_load7, ih (by omega), q_row7_c (v := 0) (m := m) (by omega) (fun j hj => q_become7_2 (a := 12) (len := 16) (by decide) hj) (fun j hj => q_become7_2 (a := 13) (len := 16) (by decide) hj)]
    rw [e bc h2]
    exact h10
theorem gS_sl {m : ZM} {w bc hq : Nat} {sc go : Nat → Nat} {x : Int32} (G : gS m w bc sc go hq) : gS (zs m (13, w, 0) 2 x) w bc sc go hq := by
  obtain ⟨h1, h2, h3, h4, ⟨ln, h5, h6, h7⟩, h8, h9, h10⟩ := G
  refine ⟨by rw [zs_ej (by decide)]; exact h1, h2, fun b hb => by rw [zs_k (zk rfl), zs_k (zk rfl)]; exact h3 b hb, fun b hb => by rw [zs_k (zk rfl)]; exact h4 b hb, ⟨ln, by rw [zs_ej (by decide)]; exact h5, h6, fun j hj => by rw [zs_k (zk rfl)]; exact h7 j hj⟩, by rw [zs_ej (by decide)]; exact h8, h9, ?_⟩
  rw [q_load7_c (zs_k (zk rfl)) (zs_k (zk rfl))]
  exact h10
/-- the hours ahead touch the state ahead alone -/
theorem q_eat_o {b n : Nat} {k : ZN} (h : zah k) : ∀ {m : ZM} {a : Int32}, q_eat 1 b n m a k = m k := by
  induction n with
  | zero => intro m a; rfl
  | succ n ih =>
    intro m a
    rw [q_eat]
    split
    · rfl
    split
    · rfl
    refine (ih).trans ?_
    have e : ∀ u : ZM, u = q_mv (zs m (2, 17 + 20 * 1, 4) b (m (2, 20 + 20 * 1, 90) 2)) (2, 20 + 20 * 1, 90) 0 (2, 19 + 20 * 1, 24) (6 * b) (q_min a (q_pair m (2, 20 + 20 * 1, 90) 0)) → u k = m k := by
      intro u hu
      rw [hu, q_mv_ne (h.2 20 90 (by decide)) (h.2 19 24 (by decide)), zs_ne (h.2 17 4 (by decide))]
    split
    · exact e _ rfl
    · unfold q_drop7
      rw [q_shift_ne (h.2 20 90 (by decide)), zs_ne h.1]
      exact e _ rfl
theorem q_pass7_o {m : ZM} {bc hq : Nat} {sc go : Nat → Nat} {k : ZN} (h : zah k) : q_pass7 m 1 bc sc go hq k = m k := by
  have e : ∀ (n : Nat) (x t : Int32) (m : ZM), q_boxes7 m 1 sc go x t n k = m k := by
    intro n x t m
    induction n with
    | zero => rfl
    | succ n ih =>
      rw [q_boxes7, q_box7]
      rw [q_wear7_ne (h.2 14 16 (by decide)), q_mv_ne (h.2 19 24 (by decide)) (h.2 21 6 (by decide)), zs_ne h.1, zs_ne (h.2 19 24 (by decide)), q_blow7_ne (h.2 18 4 (by decide)) (h.2 19 24 (by decide)), q_eat_o h, ih]
  unfold q_pass7
  rw [zs_ne h.1, e, q_take7, zs_ne h.1, q_pond7, zs_ne h.1]
theorem q_runM7_o {m : ZM} {bc hq n : Nat} {sc go : Nat → Nat} {k : ZN} (h : zah k) : q_runM7 m 1 bc sc go hq n k = m k := by
  induction n with
  | zero => rfl
  | succ n ih => rw [q_runM7, q_pass7_o h, ih]
theorem zah_2 {a len : Nat} (h : a < 30) : zah (2, a + 20 * 0, len) := ⟨fun e => by injection e with e1; exact absurd e1 (by decide), fun b l hb => z2_ne (by
  simp only [q_cpl, List.mem_cons, Prod.mk.injEq, List.not_mem_nil, or_false] at hb
  omega)⟩
theorem zah_k {k : ZN} (h : k.1 ≠ 2) (h2 : k ≠ (13, 1, 0)) : zah k := ⟨h2, fun a l _ e => h (by rw [e])⟩
theorem gS_o {m m1 : ZM} {bc hq : Nat} {sc go : Nat → Nat} (G : gS m 0 bc sc go hq) (h : ∀ k, zah k → m1 k = m k) : gS m1 0 bc sc go hq :=
  gS_same G (fun j _ => by rw [h _ (zah_k (zk rfl) (by decide))]) (h _ (zah_2 (by decide))) (h _ (zah_2 (by decide))) (h _ (zah_2 (by decide))) (h _ (zah_2 (by decide))) (h _ (zah_2 (by decide))) (h _ (zah_2 (by decide)))
def q8_foreM (m : ZM) (bc : Nat) (sc go : Nat → Nat) (hq n : Nat) : ZM := q_runM7 (q_become7 m 1 0) 1 bc sc go hq n
def q8_foresee (m : ZM) (bc : Nat) (sc go : Nat → Nat) (hq : Nat) (h k : Int32) : Int32 × ZM :=
  if q_isIn h 1 100 = 0 then q8_t m 1 else if q_isIn k 0 4 = 0 then q8_t m 2 else if nI hq + h ≤ 5000 then
    if k = 0 then (q_runT7 (q_become7 (q8_z m) 1 0) 1 bc sc go hq h.toNatClampNeg, q8_foreM (q8_z m) bc sc go hq h.toNatClampNeg)
    else if k = 1 then (q8_foreM (q8_z m) bc sc go hq h.toNatClampNeg (13, 1, 0) 1, q8_foreM (q8_z m) bc sc go hq h.toNatClampNeg)
    else if k = 2 then (q_tinBud7 (q8_foreM (q8_z m) bc sc go hq h.toNatClampNeg) 1, q8_foreM (q8_z m) bc sc go hq h.toNatClampNeg)
    else if k = 3 then (q8_foreM (q8_z m) bc sc go hq h.toNatClampNeg (13, 1, 0) 17 - q8_foreM (q8_z m) bc sc go hq h.toNatClampNeg (13, 0, 0) 17, q8_foreM (q8_z m) bc sc go hq h.toNatClampNeg)
    else (q_inHop (q8_foreM (q8_z m) bc sc go hq h.toNatClampNeg) 1 (q8_foreM (q8_z m) bc sc go hq h.toNatClampNeg (13, 1, 0) 14).toNatClampNeg, q8_foreM (q8_z m) bc sc go hq h.toNatClampNeg)
  else q8_t m 3
def q8_advM (m : ZM) (bc : Nat) (sc go : Nat → Nat) (hq n k : Nat) : ZM := q_runM7 (zs (q_become7 m 1 0) (13, 1, 0) 2 (nI k)) 1 bc sc go hq n
def q8_advS (m : ZM) (bc : Nat) (sc go : Nat → Nat) (hq n : Nat) : Nat → ZM × Int32 × Int32
  | 0 => (m, 0, -1)
  | k + 1 => if (q8_advS m bc sc go hq n k).2.2 < q_tinBud7 (q8_advM (q8_advS m bc sc go hq n k).1 bc sc go hq n k) 1 then
      (q8_advM (q8_advS m bc sc go hq n k).1 bc sc go hq n k, nI k, q_tinBud7 (q8_advM (q8_advS m bc sc go hq n k).1 bc sc go hq n k) 1)
    else (q8_advM (q8_advS m bc sc go hq n k).1 bc sc go hq n k, (q8_advS m bc sc go hq n k).2)
theorem gS_adv {m : ZM} {bc hq n k : Nat} {sc go : Nat → Nat} (G : gS m 0 bc sc go hq) : gS (q_runM7 (zs (q_become7 m 1 0) (13, 1, 0) 2 (nI k)) 1 bc sc go hq n) 0 bc sc go hq :=
  gS_o G (fun q hq => by rw [q_runM7_o hq, zs_ne hq.1, q_become7_o hq])
theorem q8_adv_a {m m0 mA mB mC : ZM} {bc hq n k : Nat} {sc go : Nat → Nat} {x2 x3 x4 : Int32} (h : (m0, x2, x3) = q8_advS m bc sc go hq n k) (eA : mA = q_become7 m0 1 0) (eB : mB = zs mA (13, 1, 0) 2 (nI k)) (eC : mC = q_runM7 mB 1 bc sc go hq n) (c : x3 < q_tinBud7 mC 1) (ex : x4 = q_tinBud7 mC 1) : (mC, nI k, x4) = q8_advS m bc sc go hq n (k + 1) := by
  subst ex eC eB eA
  rw [q8_advS, ← h]
  exact (if_pos c).symm
theorem q8_adv_b {m m0 mA mB mC : ZM} {bc hq n k : Nat} {sc go : Nat → Nat} {x2 x3 : Int32} (h : (m0, x2, x3) = q8_advS m bc sc go hq n k) (eA : mA = q_become7 m0 1 0) (eB : mB = zs mA (13, 1, 0) 2 (nI k)) (eC : mC = q_runM7 mB 1 bc sc go hq n) (c : ¬ x3 < q_tinBud7 mC 1) : (mC, x2, x3) = q8_advS m bc sc go hq n (k + 1) := by
  subst eC eB eA
  rw [q8_advS, ← h]
  exact (if_neg c).symm
theorem q8_adv_e {m m0 : ZM} {bc hq n : Nat} {sc go : Nat → Nat} {x2 x3 : Int32} (h : (m0, x2, x3) = q8_advS m bc sc go hq n 21) : ((q8_advS m bc sc go hq n 21).2.1, (q8_advS m bc sc go hq n 21).1) = (x2, m0) := by rw [← h]
def q8_advise (m : ZM) (bc : Nat) (sc go : Nat → Nat) (hq : Nat) (h : Int32) : Int32 × ZM :=
  if q_isIn h 1 48 = 0 then q8_t m 1 else if nI hq + h ≤ 5000 then ((q8_advS (q8_z m) bc sc go hq h.toNatClampNeg 21).2.1, (q8_advS (q8_z m) bc sc go hq h.toNatClampNeg 21).1) else q8_t m 2
def q8_own (m : ZM) (b w : Nat) : Int32 := q8_grade (q8_headRock m b (nI w)).toInt64 (q8_headTin m b (nI w)).toInt64
def q8_bwS (m : ZM) (b : Nat) (x : Int32) : Nat → Int32 × Int32
  | 0 => (-1, -1)
  | n + 1 => if q8_headTin m b (nI (10 + n)) < x then q8_bwS m b x n else if (q8_bwS m b x n).2 < q8_own m b (10 + n) then (nI (10 + n), q8_own m b (10 + n)) else q8_bwS m b x n
theorem q8_bw_a {m : ZM} {b k : Nat} {x x3 x4 : Int32} (h : (x3, x4) = q8_bwS m b x (k - 10)) (hk : 10 ≤ k) (c : q8_headTin m b (nI k) < x) : (x3, x4) = q8_bwS m b x (k + 1 - 10) := by
  rw [show k + 1 - 10 = (k - 10) + 1 by omega, q8_bwS, show 10 + (k - 10) = k by omega, if_pos c]
  exact h
theorem q8_bw_b {m : ZM} {b k : Nat} {x x3 x4 x5 : Int32} (h : (x3, x4) = q8_bwS m b x (k - 10)) (hk : 10 ≤ k) (c : ¬ q8_headTin m b (nI k) < x) (e : x5 = q8_own m b k) (c2 : x4 < x5) : (nI k, x5) = q8_bwS m b x (k + 1 - 10) := by
  rw [show k + 1 - 10 = (k - 10) + 1 by omega, q8_bwS, show 10 + (k - 10) = k by omega, if_neg c, ← h]
  rw [e] at c2 ⊢
  exact (if_pos c2).symm
theorem q8_bw_c {m : ZM} {b k : Nat} {x x3 x4 x5 : Int32} (h : (x3, x4) = q8_bwS m b x (k - 10)) (hk : 10 ≤ k) (c : ¬ q8_headTin m b (nI k) < x) (e : x5 = q8_own m b k) (c2 : ¬ x4 < x5) : (x3, x4) = q8_bwS m b x (k + 1 - 10) := by
  rw [show k + 1 - 10 = (k - 10) + 1 by omega, q8_bwS, show 10 + (k - 10) = k by omega, if_neg c, ← h]
  rw [e] at c2
  exact (if_neg c2).symm
def q8_bwR (m : ZM) (b : Nat) (x : Int32) : Int32 := if q_pair m (2, 21 + 20 * 0, 6) (2 * b) ≤ 0 then -1 else (q8_bwS m b x 81).1
theorem q8_bw_e1 {m : ZM} {b k : Nat} {x x3 x4 : Int32} (h : (x3, x4) = q8_bwS m b x (k - 10)) (h2 : k = 10 ∨ ¬ q_pair m (2, 21 + 20 * 0, 6) (2 * b) ≤ 0) (c : q_pair m (2, 21 + 20 * 0, 6) (2 * b) ≤ 0) : x3 = q8_bwR m b x := by
  unfold q8_bwR
  rw [if_pos c]
  rcases h2 with rfl | h2
  · exact congrArg Prod.fst h
  · exact absurd c h2
theorem q8_bw_e2 {m : ZM} {b k : Nat} {x x3 x4 : Int32} (h : (x3, x4) = q8_bwS m b x (k - 10)) (h2 : ¬ q_pair m (2, 21 + 20 * 0, 6) (2 * b) ≤ 0) (hk : k = 91) : x3 = q8_bwR m b x := by
  unfold q8_bwR
  rw [if_neg h2]
  subst hk
  exact congrArg Prod.fst h
def q8_bestWater (m : ZM) (b x : Int32) : Int32 × ZM :=
  if q_isIn b 0 2 = 0 then q8_t m 1 else if 0 ≤ x then (q8_bwR (q8_z m) b.toNatClampNeg x, q8_z m) else q8_t m 2
