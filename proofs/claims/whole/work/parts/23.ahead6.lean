theorem zsw4 {x : Int32} (h0 : ¬ x = 0) (h1 : ¬ x = 1) (h2 : ¬ x = 2) (h3 : ¬ x = 3) : x.toInt < 0 ∨ 3 < x.toInt := by
  have g0 := lv_neT h0 (a := 0) rfl
  have g1 := lv_neT h1 (a := 1) rfl
  have g2 := lv_neT h2 (a := 2) rfl
  have g3 := lv_neT h3 (a := 3) rfl
  omega
theorem zsw20 {x : Int32} (h0 : ¬ x = 0) (h1 : ¬ x = 1) (h2 : ¬ x = 2) (h3 : ¬ x = 3) (h4 : ¬ x = 4) (h5 : ¬ x = 5) (h6 : ¬ x = 6) (h7 : ¬ x = 7) (h8 : ¬ x = 8) (h9 : ¬ x = 9) (h10 : ¬ x = 10) (h11 : ¬ x = 11) (h12 : ¬ x = 12) (h13 : ¬ x = 13) (h14 : ¬ x = 14) (h15 : ¬ x = 15) (h16 : ¬ x = 16) (h17 : ¬ x = 17) (h18 : ¬ x = 18) (h19 : ¬ x = 19) : x.toInt < 0 ∨ 19 < x.toInt := by
  have g0 := lv_neT h0 (a := 0) rfl
  have g1 := lv_neT h1 (a := 1) rfl
  have g2 := lv_neT h2 (a := 2) rfl
  have g3 := lv_neT h3 (a := 3) rfl
  have g4 := lv_neT h4 (a := 4) rfl
  have g5 := lv_neT h5 (a := 5) rfl
  have g6 := lv_neT h6 (a := 6) rfl
  have g7 := lv_neT h7 (a := 7) rfl
  have g8 := lv_neT h8 (a := 8) rfl
  have g9 := lv_neT h9 (a := 9) rfl
  have g10 := lv_neT h10 (a := 10) rfl
  have g11 := lv_neT h11 (a := 11) rfl
  have g12 := lv_neT h12 (a := 12) rfl
  have g13 := lv_neT h13 (a := 13) rfl
  have g14 := lv_neT h14 (a := 14) rfl
  have g15 := lv_neT h15 (a := 15) rfl
  have g16 := lv_neT h16 (a := 16) rfl
  have g17 := lv_neT h17 (a := 17) rfl
  have g18 := lv_neT h18 (a := 18) rfl
  have g19 := lv_neT h19 (a := 19) rfl
  omega
/-! what the works w change; a copy of the works -/
def zt (w : Nat) (k : ZN) : Prop := (k.2.1 = w ∧ (k.1 = 1 ∨ k.1 = 4 ∨ k.1 = 6 ∨ k.1 = 7 ∨ k.1 = 8 ∨ k.1 = 10)) ∨ k = (2, w, 24)
theorem zt_ne {w : Nat} {n k : ZN} (hn : zt w n) (hk : ¬ zt w k) : k ≠ n := fun e => hk (e ▸ hn)
theorem zt_1 {w b : Nat} : zt w (1, w, b) := Or.inl ⟨rfl, Or.inl rfl⟩
theorem zt_4 {w b : Nat} : zt w (4, w, b) := Or.inl ⟨rfl, Or.inr (Or.inl rfl)⟩
theorem zt_6 {w b : Nat} : zt w (6, w, b) := Or.inl ⟨rfl, Or.inr (Or.inr (Or.inl rfl))⟩
theorem zt_7 {w b : Nat} : zt w (7, w, b) := Or.inl ⟨rfl, Or.inr (Or.inr (Or.inr (Or.inl rfl)))⟩
theorem zt_8 {w b : Nat} : zt w (8, w, b) := Or.inl ⟨rfl, Or.inr (Or.inr (Or.inr (Or.inr (Or.inl rfl))))⟩
theorem zt_10 {w b : Nat} : zt w (10, w, b) := Or.inl ⟨rfl, Or.inr (Or.inr (Or.inr (Or.inr (Or.inr rfl))))⟩
theorem zt_n0 {k b : Nat} : ¬ zt 1 (k, 0, b) := by
  rintro (⟨h, -⟩ | h)
  · cases h
  · injection h with _ h
    injection h with h _
    cases h
theorem zt1_80 : ¬ zt 1 (8, 0, 0) := zt_n0
def zfr (w : Nat) (m m1 : ZM) : Prop := ∀ k, ¬ zt w k → m1 k = m k
section ZFR
variable {w : Nat} {m m1 m2 : ZM} {n v : ZN}
theorem zf_rf : zfr w m m := fun _ _ => rfl
theorem zf_tr (h : zfr w m m1) (h2 : zfr w m1 m2) : zfr w m m2 := fun k hk => (h2 k hk).trans (h k hk)
theorem zf_s {j : Nat} {x : Int32} (h : zfr w m m1) (hn : zt w n) : zfr w m (zs m1 n j x) := fun k hk => (zs_ne (zt_ne hn hk)).trans (h k hk)
theorem zf_put {a b : Int32} (h : zfr w m m1) (hn : zt w n) : zfr w m (q_put m1 n a b) := zf_s (zf_s h hn) hn
theorem zf_become {a b : Int32} (h : zfr w m m1) (hn : zt w n) : zfr w m (q_become m1 n a b) := zf_s (zf_s h hn) hn
theorem zf_move {a : Int32} (h : zfr w m m1) (hn : zt w n) (hv : zt w v) : zfr w m (q_move m1 n v a) := by
  unfold q_move
  split
  · exact zf_put (zf_put h hv) hn
  · exact h
theorem zf_addLot {j : Nat} {a b x : Int32} (h : zfr w m m1) : zfr w m (q_addLot m1 w j a b x) := zf_s (zf_s (zf_become h zt_7) zt_10) zt_8
theorem zf_drop (h : zfr w m m1) : zfr w m (q_dropFirst m1 w) := zf_s (zf_s h zt_8) zt_8
theorem zf_feed {n : Nat} (hv : zt w v) : ∀ {m1 : ZM} {a x : Int32}, zfr w m m1 → zfr w m (q_feed w v n m1 a x).1 := by
  induction n with
  | zero => intro m1 a x h; exact h
  | succ n ih =>
    intro m1 a x h
    unfold q_feed
    split
    · exact h
    split
    · exact h
    refine ih ?_
    split
    · exact zf_move h zt_7 hv
    · exact zf_drop (zf_move h zt_7 hv)
theorem zf_blow {b cn : Nat} {t : Int32} (h : zfr w m m1) : zfr w m (q_blow m1 w b cn t) := zf_move (zf_move (zf_s h zt_4) zt_7 zt_7) zt_7 zt_7
theorem zf_wearS {b cn : Nat} {t : Int32} (h : zfr w m m1) : zfr w m (q_wearS m1 w b t cn) := by
  induction cn with
  | zero => exact h
  | succ n ih => exact zf_s ih zt_6
theorem zf_work {b cn ub : Nat} {x t : Int32} (h : zfr w m m1) : zfr w m (q_work m1 w b cn ub x t) :=
  zf_wearS (zf_move (zf_s (zf_s (zf_blow (zf_s (zf_feed zt_7 h) zt_4)) zt_7) zt_1) zt_7 zt_7)
theorem zf_boxes {sc bu : Nat → Nat} {x t : Int32} {k : Nat} (h : zfr w m m1) : zfr w m (q_boxes m1 w sc bu x t k) := by
  induction k with
  | zero => exact h
  | succ n ih => exact zf_work ih
theorem zf_hour {bc hq : Nat} {sc bu : Nat → Nat} (h : zfr w m m1) : zfr w m (q_hourM m1 w bc sc bu hq) := zf_s (zf_boxes (zf_s h zt_1)) zt_1
theorem zf_pass {bc hq k : Nat} {sc bu : Nat → Nat} (h : zfr w m m1) : zfr w m (q_passM m1 w bc sc bu hq k) := by
  induction k with
  | zero => exact h
  | succ n ih => exact zf_hour ih
end ZFR
/-- the hopper's count -/
def gH (m : ZM) (w : Nat) : Prop := ∃ c, m (8, w, 0) 2 = nI c ∧ c ≤ 30
theorem gH_same {m m1 : ZM} {w : Nat} (h : gH m w) (e : m1 (8, w, 0) 2 = m (8, w, 0) 2) : gH m1 w := by
  obtain ⟨c, h1, h2⟩ := h
  exact ⟨c, e.trans h1, h2⟩
theorem zn_pred {c : Nat} (h : 0 < c) : nI c - 1 = nI (c - 1) := pk_sub (a := c) (b := 1) h
theorem gH_drop {m : ZM} {w : Nat} (h : gH m w) (c2 : ¬ m (8, w, 0) 2 ≤ 0) : gH (q_dropFirst m w) w := by
  obtain ⟨c, h1, h2⟩ := h
  rw [h1] at c2
  have h3 : 0 < c := znle c2 (b := 0) rfl rfl (by omega) (by omega)
  refine ⟨c - 1, ?_, by omega⟩
  unfold q_dropFirst
  rw [zs_eq rfl, zs_ej (by decide), h1, zn_pred h3]
theorem gH_feed {w n : Nat} {v : ZN} (hv : v.1 = 7) : ∀ {m : ZM} {a x : Int32}, gH m w → gH (q_feed w v n m a x).1 w := by
  induction n with
  | zero => intro m a x h; exact h
  | succ n ih =>
    intro m a x h
    unfold q_feed
    split
    · exact h
    split
    · exact h
    next c2 =>
      have e : ∀ (u : ZN) (z : Int32), u.1 = 7 → q_move m u v z (8, w, 0) 2 = m (8, w, 0) 2 := fun u z hu => by rw [q_move_k (by rw [hu]; exact zk rfl) (by rw [hv]; exact zk rfl)]
      refine ih ?_
      split
      · exact gH_same h (e _ _ rfl)
      · exact gH_drop (gH_same h (e _ _ rfl)) (by rw [e _ _ rfl]; exact c2)
theorem gH_work {m : ZM} {w b cn ub : Nat} {x t : Int32} (h : gH m w) : gH (q_work m w b cn ub x t) w := by
  refine gH_same (gH_feed (v := (7, w, 3 * b)) (n := 30) (a := m (4, w, b) 5) (x := m (4, w, b) 7) rfl h) ?_
  unfold q_work q_grate q_slimeM
  rw [q_wearS_k (zk rfl), q_move_k (zk rfl) (zk rfl), zs_k (zk rfl), zs_k (zk rfl), q_blow_k (zk rfl) (zk rfl), zs_k (zk rfl)]
theorem gH_boxes {m : ZM} {w k : Nat} {sc bu : Nat → Nat} {x t : Int32} (h : gH m w) : gH (q_boxes m w sc bu x t k) w := by
  induction k with
  | zero => exact h
  | succ n ih => exact gH_work ih
theorem gH_hour {m : ZM} {w bc hq : Nat} {sc bu : Nat → Nat} (h : gH m w) : gH (q_hourM m w bc sc bu hq) w := by
  unfold q_hourM
  refine gH_same (gH_boxes (x := q_taken m w hq) (t := q_hourT m w sc bc hq) (k := bc) (sc := sc) (bu := bu) (gH_same (m1 := q_takeM m w hq) h ?_)) ?_
  · unfold q_takeM
    rw [zs_k (zk rfl)]
  · rw [zs_k (zk rfl)]
theorem gH_pass {m : ZM} {w bc hq k : Nat} {sc bu : Nat → Nat} (h : gH m w) : gH (q_passM m w bc sc bu hq k) w := by
  induction k with
  | zero => exact h
  | succ n ih => exact gH_hour ih
/-- copied so far: the places of S; every other place of the second works is as it was, or copied -/
def zC (m m1 : ZM) (S : Nat → Nat → Nat → Prop) : Prop := zfr 1 m m1 ∧ (∀ k b j, m1 (k, 1, b) j = m (k, 0, b) j ∨ m1 (k, 1, b) j = m (k, 1, b) j) ∧ ∀ k b j, S k b j → m1 (k, 1, b) j = m (k, 0, b) j
theorem zC_rf {m : ZM} : zC m m (fun _ _ _ => False) := ⟨zf_rf, fun _ _ _ => Or.inr rfl, fun _ _ _ h => h.elim⟩
theorem zC_sub {m m1 : ZM} {S S' : Nat → Nat → Nat → Prop} (h : zC m m1 S) (hs : ∀ k b j, S' k b j → S k b j) : zC m m1 S' := ⟨h.1, h.2.1, fun k b j q => h.2.2 k b j (hs k b j q)⟩
theorem zC_v {m m1 : ZM} {S : Nat → Nat → Nat → Prop} (h : zC m m1 S) {k b j : Nat} : m1 (k, 0, b) j = m (k, 0, b) j := congrFun (h.1 _ zt_n0) j
theorem zC_s {m m1 : ZM} {S : Nat → Nat → Nat → Prop} (h : zC m m1 S) {k b j : Nat} {x : Int32} (hk : zt 1 (k, 1, b)) (hx : x = m (k, 0, b) j) : zC m (zs m1 (k, 1, b) j x) (fun k' b' j' => (k' = k ∧ b' = b ∧ j' = j) ∨ S k' b' j') := by
  have e : ∀ k' b' j', (k' = k ∧ b' = b ∧ j' = j) ∨ zs m1 (k, 1, b) j x (k', 1, b') j' = m1 (k', 1, b') j' := by
    intro k' b' j'
    by_cases h1 : ((k', 1, b') : ZN) = (k, 1, b)
    · injection h1 with h1 h2
      injection h2 with _ h2
      subst h1 h2
      by_cases h3 : j' = j
      · exact Or.inl ⟨rfl, rfl, h3⟩
      · exact Or.inr (zs_ej h3)
    · exact Or.inr (by rw [zs_ne h1])
  refine ⟨zf_s h.1 hk, fun k' b' j' => ?_, fun k' b' j' q => ?_⟩
  · rcases e k' b' j' with ⟨rfl, rfl, rfl⟩ | e
    · exact Or.inl ((zs_eq rfl).trans hx)
    · rw [e]; exact h.2.1 k' b' j'
  · rcases e k' b' j' with ⟨rfl, rfl, rfl⟩ | e
    · exact (zs_eq rfl).trans hx
    · rcases q with ⟨rfl, rfl, rfl⟩ | q
      · exact (zs_eq rfl).trans hx
      · rw [e]; exact h.2.2 k' b' j' q
theorem zC_ore {m m1 : ZM} {S : Nat → Nat → Nat → Prop} (h : zC m m1 S) {o : Nat} : zC m (q_copyOre m1 (7, 1, o) (7, 0, o)) (fun k b j => (k = 7 ∧ b = o ∧ j < 2) ∨ S k b j) :=
  zC_sub (zC_s (zC_s h zt_7 (zC_v h)) zt_7 (zC_v h)) (fun k b j q => by
      rcases q with q | q
      · by_cases e : j = 1
        · exact Or.inl (by omega)
        · exact Or.inr (Or.inl (by omega))
      · exact Or.inr (Or.inr (q)))
theorem zC_stamp {m m1 : ZM} {S : Nat → Nat → Nat → Prop} (h : zC m m1 S) {o : Nat} : zC m (q_copyStamp m1 (6, 1, o) (6, 0, o)) (fun k b j => (k = 6 ∧ b = o ∧ j < 3) ∨ S k b j) := by
  have h1 := zC_s h (k := 6) (b := o) (j := 0) zt_6 (zC_v h)
  have h2 := zC_s h1 (k := 6) (b := o) (j := 1) zt_6 (zC_v h1)
  exact zC_sub (zC_s h2 (k := 6) (b := o) (j := 2) zt_6 (zC_v h2)) (fun k b j q => by
      rcases q with q | q
      · by_cases e2 : j = 2
        · exact Or.inl (by omega)
        · by_cases e : j = 1
          · exact Or.inr (Or.inl (by omega))
          · exact Or.inr (Or.inr (Or.inl (by omega)))
      · exact Or.inr (Or.inr (Or.inr (q))))
theorem zC_stamps {m m1 : ZM} {S : Nat → Nat → Nat → Prop} {b0 n : Nat} (h : zC m m1 S) : zC m (q_cpStamps 1 b0 0 b0 m1 n) (fun k b j => (k = 6 ∧ 4 * b0 ≤ b ∧ b < 4 * b0 + n ∧ j < 3) ∨ S k b j) := by
  induction n with
  | zero => exact zC_sub h (fun k b j q => by
      rcases q with q | q
      · omega
      · exact q)
  | succ n ih => exact zC_sub (zC_stamp ih) (fun k b j q => by
      rcases q with q | q
      · by_cases e : b = 4 * b0 + n
        · exact Or.inl (by omega)
        · exact Or.inr (Or.inl (by omega))
      · exact Or.inr (Or.inr (q)))
theorem zC_box {m m1 : ZM} {S : Nat → Nat → Nat → Prop} {b0 n : Nat} (h : zC m m1 S) : zC m (q_copyBox m1 1 b0 0 b0 n) (fun k b j => (k = 4 ∧ b = b0 ∧ 4 ≤ j ∧ j ≤ 8) ∨ (k = 6 ∧ 4 * b0 ≤ b ∧ b < 4 * b0 + n ∧ j < 3) ∨ (k = 7 ∧ 3 * b0 ≤ b ∧ b < 3 * b0 + 3 ∧ j < 2) ∨ S k b j) := by
  have h1 := zC_stamps (n := n) (b0 := b0) (zC_s h (k := 4) (b := b0) (j := 4) zt_4 (zC_v h))
  have h2 := zC_ore (o := 3 * b0 + 2) (zC_ore (o := 3 * b0 + 1) (zC_ore (o := 3 * b0) h1))
  have h3 := zC_s h2 (k := 4) (b := b0) (j := 5) zt_4 (zC_v h2)
  have h4 := zC_s h3 (k := 4) (b := b0) (j := 6) zt_4 (zC_v h3)
  have h5 := zC_s h4 (k := 4) (b := b0) (j := 7) zt_4 (zC_v h4)
  have h6 := zC_s h5 (k := 4) (b := b0) (j := 8) zt_4 (zC_v h5)
  exact zC_sub h6 (fun k b j q => by
      rcases q with q | q | q | q
      · by_cases e8 : j = 8
        · exact Or.inl (by omega)
        · by_cases e7 : j = 7
          · exact Or.inr (Or.inl (by omega))
          · by_cases e6 : j = 6
            · exact Or.inr (Or.inr (Or.inl (by omega)))
            · by_cases e5 : j = 5
              · exact Or.inr (Or.inr (Or.inr (Or.inl (by omega))))
              · exact Or.inr (Or.inr (Or.inr (Or.inr (Or.inr (Or.inr (Or.inr (Or.inr (Or.inl (by omega)))))))))
      · exact Or.inr (Or.inr (Or.inr (Or.inr (Or.inr (Or.inr (Or.inr (Or.inl q)))))))
      · by_cases e2 : b = 3 * b0 + 2
        · exact Or.inr (Or.inr (Or.inr (Or.inr (Or.inl (by omega)))))
        · by_cases e1 : b = 3 * b0 + 1
          · exact Or.inr (Or.inr (Or.inr (Or.inr (Or.inr (Or.inl (by omega))))))
          · exact Or.inr (Or.inr (Or.inr (Or.inr (Or.inr (Or.inr (Or.inl (by omega)))))))
      · exact Or.inr (Or.inr (Or.inr (Or.inr (Or.inr (Or.inr (Or.inr (Or.inr (Or.inr (q))))))))))
theorem zC_boxes {m m1 : ZM} {S : Nat → Nat → Nat → Prop} {sc : Nat → Nat} {n : Nat} (h : zC m m1 S) : zC m (q_cpBoxes 1 0 sc m1 n) (fun k b j => (k = 4 ∧ b < n ∧ 4 ≤ j ∧ j ≤ 8) ∨ (k = 6 ∧ (∃ d, d < n ∧ 4 * d ≤ b ∧ b < 4 * d + sc d) ∧ j < 3) ∨ (k = 7 ∧ b < 3 * n ∧ j < 2) ∨ S k b j) := by
  induction n with
  | zero => exact zC_sub h (fun k b j q => by
      rcases q with q | ⟨-, ⟨d, q, -⟩, -⟩ | q | q
      · omega
      · omega
      · omega
      · exact q)
  | succ n ih => exact zC_sub (zC_box (b0 := n) (n := sc n) ih) (fun k b j q => by
      rcases q with q | ⟨q1, ⟨d, q2, q3, q4⟩, q5⟩ | q | q
      · by_cases e : b = n
        · exact Or.inl (by omega)
        · exact Or.inr (Or.inr (Or.inr (Or.inl (by omega))))
      · by_cases e : d = n
        · subst e
          exact Or.inr (Or.inl ⟨q1, q3, q4, q5⟩)
        · exact Or.inr (Or.inr (Or.inr (Or.inr (Or.inl ⟨q1, ⟨d, by omega, q3, q4⟩, q5⟩))))
      · by_cases e : 3 * n ≤ b
        · exact Or.inr (Or.inr (Or.inl (by omega)))
        · exact Or.inr (Or.inr (Or.inr (Or.inr (Or.inr (Or.inl (by omega))))))
      · exact Or.inr (Or.inr (Or.inr (Or.inr (Or.inr (Or.inr q))))))
theorem zC_lots {m m1 : ZM} {S : Nat → Nat → Nat → Prop} {f n : Nat} (h : zC m m1 S) : zC m (q_cpLots 1 0 f m1 n) (fun k b j => (∃ i, i < n ∧ ((k = 7 ∧ b = 12 + (f + i) % 30 ∧ j < 2) ∨ (k = 10 ∧ b = (f + i) % 30 ∧ j = 1))) ∨ S k b j) := by
  induction n with
  | zero => exact zC_sub h (fun k b j q => by
      rcases q with ⟨i, q, -⟩ | q
      · omega
      · exact q)
  | succ n ih =>
    have h1 := zC_ore (o := 12 + (f + n) % 30) ih
    have h2 := zC_s h1 (k := 10) (b := (f + n) % 30) (j := 1) zt_10 (zC_v h1)
    exact zC_sub h2 (fun k b j q => by
      rcases q with ⟨i, q1, q2⟩ | q
      · by_cases e : i = n
        · subst e
          rcases q2 with q2 | q2
          · exact Or.inr (Or.inl q2)
          · exact Or.inl q2
        · exact Or.inr (Or.inr (Or.inl ⟨i, by omega, q2⟩))
      · exact Or.inr (Or.inr (Or.inr q)))
theorem zC_buds {m m1 : ZM} {S : Nat → Nat → Nat → Prop} {n : Nat} (h : zC m m1 S) : zC m (q_cpBuds 1 0 m1 n) (fun k b j => (k = 7 ∧ 42 ≤ b ∧ b < 42 + n ∧ j < 2) ∨ S k b j) := by
  induction n with
  | zero => exact zC_sub h (fun k b j q => by
      rcases q with q | q
      · omega
      · exact q)
  | succ n ih => exact zC_sub (zC_ore (o := 42 + n) ih) (fun k b j q => by
      rcases q with q | q
      · by_cases e : b = 42 + n
        · exact Or.inl (by omega)
        · exact Or.inr (Or.inl (by omega))
      · exact Or.inr (Or.inr q))
theorem zC_inflow {m : ZM} : zC m (zcp m (2, 0, 24) (2, 1, 24) 24) (fun k b j => k = 2 ∧ b = 24 ∧ j < 24) := by
  refine ⟨fun k hk => zcp_ne (fun e => hk (e ▸ Or.inr rfl)), fun k b j => ?_, fun k b j q => ?_⟩
  · by_cases e : ((k, 1, b) : ZN) = (2, 1, 24)
    · injection e with e1 e2
      injection e2 with _ e2
      subst e1 e2
      by_cases hj : j < 24
      · exact Or.inl (zcp_at hj)
      · refine Or.inr ?_
        unfold zcp
        rw [zu_eq]
        unfold va_cpy
        rw [if_neg (by omega)]
    · exact Or.inr (by rw [zcp_ne e])
  · obtain ⟨rfl, rfl, hj⟩ := q
    exact zcp_at hj
/-- the places that a copy fills -/
def zcS (bc : Nat) (sc : Nat → Nat) (fq hn : Nat) (k b j : Nat) : Prop :=
  (k = 1 ∧ b = 0 ∧ 6 ≤ j ∧ j ≤ 10) ∨ (k = 7 ∧ 42 ≤ b ∧ b < 45 ∧ j < 2) ∨ (∃ i, i < hn ∧ ((k = 7 ∧ b = 12 + (fq + i) % 30 ∧ j < 2) ∨ (k = 10 ∧ b = (fq + i) % 30 ∧ j = 1))) ∨ (k = 8 ∧ b = 0 ∧ 1 ≤ j ∧ j ≤ 2) ∨
  (k = 4 ∧ b < bc ∧ 4 ≤ j ∧ j ≤ 8) ∨ (k = 6 ∧ (∃ d, d < bc ∧ 4 * d ≤ b ∧ b < 4 * d + sc d) ∧ j < 3) ∨ (k = 7 ∧ b < 3 * bc ∧ j < 2) ∨ (k = 2 ∧ b = 24 ∧ j < 24)
theorem zC_works {m : ZM} {bc fq hn : Nat} {sc : Nat → Nat} : zC m (q_copyWorks m 1 0 bc sc fq hn) (zcS bc sc fq hn) := by
  have h1 := zC_s (zC_inflow (m := m)) (k := 1) (b := 0) (j := 9) zt_1 (zC_v zC_inflow)
  have h2 := zC_boxes (n := bc) (sc := sc) h1
  have h3 := zC_s h2 (k := 8) (b := 0) (j := 1) zt_8 (zC_v h2)
  have h4 := zC_s h3 (k := 8) (b := 0) (j := 2) zt_8 (zC_v h3)
  have h5 := zC_buds (n := 3) (zC_lots (f := fq) (n := hn) h4)
  have h6 := zC_s h5 (k := 1) (b := 0) (j := 6) zt_1 (zC_v h5)
  have h7 := zC_s h6 (k := 1) (b := 0) (j := 7) zt_1 (zC_v h6)
  have h8 := zC_s h7 (k := 1) (b := 0) (j := 8) zt_1 (zC_v h7)
  have h9 := zC_s h8 (k := 1) (b := 0) (j := 10) zt_1 (zC_v h8)
  refine zC_sub h9 (fun k b j q => ?_)
  rcases q with q | q | q | q | q | q | q | q
  · by_cases e9 : j = 9
    · exact Or.inr (Or.inr (Or.inr (Or.inr (Or.inr (Or.inr (Or.inr (Or.inr (Or.inr (Or.inr (Or.inr (Or.inl (by omega))))))))))))
    · by_cases e : j = 10
      · exact Or.inl (by omega)
      · by_cases e : j = 8
        · exact Or.inr (Or.inl (by omega))
        · by_cases e : j = 7
          · exact Or.inr (Or.inr (Or.inl (by omega)))
          · exact Or.inr (Or.inr (Or.inr (Or.inl (by omega))))
  · exact Or.inr (Or.inr (Or.inr (Or.inr (Or.inl (by omega)))))
  · exact Or.inr (Or.inr (Or.inr (Or.inr (Or.inr (Or.inl q)))))
  · by_cases e : j = 2
    · exact Or.inr (Or.inr (Or.inr (Or.inr (Or.inr (Or.inr (Or.inl (by omega)))))))
    · exact Or.inr (Or.inr (Or.inr (Or.inr (Or.inr (Or.inr (Or.inr (Or.inl (by omega))))))))
  · exact Or.inr (Or.inr (Or.inr (Or.inr (Or.inr (Or.inr (Or.inr (Or.inr (Or.inl q))))))))
  · exact Or.inr (Or.inr (Or.inr (Or.inr (Or.inr (Or.inr (Or.inr (Or.inr (Or.inr (Or.inl q)))))))))
  · exact Or.inr (Or.inr (Or.inr (Or.inr (Or.inr (Or.inr (Or.inr (Or.inr (Or.inr (Or.inr (Or.inl q))))))))))
  · exact Or.inr (Or.inr (Or.inr (Or.inr (Or.inr (Or.inr (Or.inr (Or.inr (Or.inr (Or.inr (Or.inr (Or.inr q)))))))))))
/-- the second works' boxes -/
def gT (m : ZM) : Prop := ∀ b, b < 4 → ∃ s u, m (4, 1, b) 4 = nI s ∧ s ≤ 4 ∧ m (4, 1, b) 6 = nI u ∧ u < 3
theorem gT_of {m : ZM} {bc hq : Nat} {sc bu : Nat → Nat} (G : gW m 1 bc sc bu hq) : gT m := fun b hb => ⟨sc b, bu b, G.2.2.1 b hb⟩
def zsc (m : ZM) (b : Nat) : Nat := (m (4, 1, b) 4).toNatClampNeg
def zbu (m : ZM) (b : Nat) : Nat := (m (4, 1, b) 6).toNatClampNeg
theorem gW_copy {m : ZM} {bc hq fq hn : Nat} {sc bu : Nat → Nat} (G : gW m 0 bc sc bu hq) (T : gT m) (hfq : m (8, 0, 0) 1 = nI fq) (lfq : fq < 30) : gW (q_copyWorks m 1 0 bc sc fq hn) 1 bc (zsc (q_copyWorks m 1 0 bc sc fq hn)) (zbu (q_copyWorks m 1 0 bc sc fq hn)) hq := by
  have K := zC_works (m := m) (bc := bc) (sc := sc) (fq := fq) (hn := hn)
  generalize q_copyWorks m 1 0 bc sc fq hn = M at K ⊢
  obtain ⟨h1, h2, h3, -, h6, h7⟩ := G
  refine ⟨(K.2.2 1 0 9 (Or.inl (by omega))).trans h1, h2, fun b hb => ?_, ⟨fq, (K.2.2 8 0 1 (Or.inr (Or.inr (Or.inr (Or.inl (by omega)))))).trans hfq, lfq⟩, (K.2.2 1 0 6 (Or.inl (by omega))).trans h6, h7⟩
  obtain ⟨s, u, t1, t2, t3, t4⟩ := T b hb
  obtain ⟨g1, g2, g3, g4⟩ := h3 b hb
  have e4 : ∃ s, M (4, 1, b) 4 = nI s ∧ s ≤ 4 := (K.2.1 4 b 4).elim (fun e => ⟨_, e.trans g1, g2⟩) (fun e => ⟨_, e.trans t1, t2⟩)
  have e6 : ∃ s, M (4, 1, b) 6 = nI s ∧ s < 3 := (K.2.1 4 b 6).elim (fun e => ⟨_, e.trans g3, g4⟩) (fun e => ⟨_, e.trans t3, t4⟩)
  obtain ⟨s1, a1, a2⟩ := e4
  obtain ⟨s2, a3, a4⟩ := e6
  unfold zsc zbu
  rw [a1, a3, nI_clamp (by omega), nI_clamp (by omega)]
  exact ⟨rfl, a2, rfl, a4⟩
theorem gH_copy {m : ZM} {bc fq hn : Nat} {sc : Nat → Nat} (hhn : m (8, 0, 0) 2 = nI hn) (lhn : hn ≤ 30) : gH (q_copyWorks m 1 0 bc sc fq hn) 1 :=
  ⟨hn, (zC_works.2.2 8 0 2 (Or.inr (Or.inr (Or.inr (Or.inl (by omega)))))).trans hhn, lhn⟩
theorem gW_fr {m m0 : ZM} {bc hq : Nat} {sc bu : Nat → Nat} (h : zfr 1 m m0) (G : gW m 0 bc sc bu hq) : gW m0 0 bc sc bu hq := by
  obtain ⟨h1, h2, h3, h4, h5, h6⟩ := G
  exact ⟨by rw [h _ zt_n0]; exact h1, h2, fun b hb => by rw [h _ zt_n0]; exact h3 b hb, by rw [h _ zt_n0]; exact h4, by rw [h _ zt_n0]; exact h5, h6⟩
theorem gW_sl6 {m : ZM} {bc hq : Nat} {x : Int32} (G : gW m 1 bc (zsc m) (zbu m) hq) : gW (zs m (1, 1, 0) 8 x) 1 bc (zsc (zs m (1, 1, 0) 8 x)) (zbu (zs m (1, 1, 0) 8 x)) hq := by
  obtain ⟨h1, h2, h3, h4, h5, h6⟩ := G
  have e : ∀ b, zs m (1, 1, 0) 8 x (4, 1, b) = m (4, 1, b) := fun b => zs_k (zk rfl)
  refine ⟨by rw [zs_ej (by decide)]; exact h1, h2, fun b hb => ?_, by rw [zs_k (zk rfl)]; exact h4, by rw [zs_ej (by decide)]; exact h5, h6⟩
  unfold zsc zbu
  rw [e]
  exact h3 b hb
def q6_foreM (m : ZM) (bc : Nat) (sc : Nat → Nat) (hq fq hn n : Nat) : ZM := q_passM (q_copyWorks m 1 0 bc sc fq hn) 1 bc (zsc (q_copyWorks m 1 0 bc sc fq hn)) (zbu (q_copyWorks m 1 0 bc sc fq hn)) hq n
def q6_foreT (m : ZM) (bc : Nat) (sc : Nat → Nat) (hq fq hn n : Nat) : Int32 := q_passT (q_copyWorks m 1 0 bc sc fq hn) 1 bc (zsc (q_copyWorks m 1 0 bc sc fq hn)) (zbu (q_copyWorks m 1 0 bc sc fq hn)) hq n
def q6_foresee (m : ZM) (bc : Nat) (sc : Nat → Nat) (hq fq hn : Nat) (h k : Int32) : Z3 :=
  if q6_rh h 100 = 0 then (if k < 0 then (1, 0, m) else if k < 5 then (if q6_lh m h = 0 then
      (if k = 0 then (0, q6_foreT m bc sc hq fq hn h.toNatClampNeg, q6_foreM m bc sc hq fq hn h.toNatClampNeg)
      else if k = 1 then (0, q6_foreM m bc sc hq fq hn h.toNatClampNeg (1, 1, 0) 7, q6_foreM m bc sc hq fq hn h.toNatClampNeg)
      else if k = 2 then (0, q_tinBuds (q6_foreM m bc sc hq fq hn h.toNatClampNeg) 1 3, q6_foreM m bc sc hq fq hn h.toNatClampNeg)
      else if k = 3 then (0, q6_foreM m bc sc hq fq hn h.toNatClampNeg (1, 1, 0) 10 - q6_foreM m bc sc hq fq hn h.toNatClampNeg (1, 0, 0) 10, q6_foreM m bc sc hq fq hn h.toNatClampNeg)
      else (0, q_oreLots (q6_foreM m bc sc hq fq hn h.toNatClampNeg) 1 (q6_foreM m bc sc hq fq hn h.toNatClampNeg (8, 1, 0) 1).toNatClampNeg (q6_foreM m bc sc hq fq hn h.toNatClampNeg (8, 1, 0) 2).toNatClampNeg, q6_foreM m bc sc hq fq hn h.toNatClampNeg))
    else (q6_lh m h, 0, m)) else (1, 0, m)) else (q6_rh h 100, 0, m)
def q6_advM (m : ZM) (bc : Nat) (sc : Nat → Nat) (hq fq hn n k : Nat) : ZM :=
  q_passM (zs (q_copyWorks m 1 0 bc sc fq hn) (1, 1, 0) 8 (nI k)) 1 bc (zsc (zs (q_copyWorks m 1 0 bc sc fq hn) (1, 1, 0) 8 (nI k))) (zbu (zs (q_copyWorks m 1 0 bc sc fq hn) (1, 1, 0) 8 (nI k))) hq n
def q6_advS (m : ZM) (bc : Nat) (sc : Nat → Nat) (hq fq hn n : Nat) : Nat → ZM × Int32 × Int32
  | 0 => (m, 0, -1)
  | k + 1 => if q_tinBuds (q6_advM (q6_advS m bc sc hq fq hn n k).1 bc sc hq fq hn n k) 1 3 ≤ (q6_advS m bc sc hq fq hn n k).2.2 then (q6_advM (q6_advS m bc sc hq fq hn n k).1 bc sc hq fq hn n k, (q6_advS m bc sc hq fq hn n k).2)
    else (q6_advM (q6_advS m bc sc hq fq hn n k).1 bc sc hq fq hn n k, nI k, q_tinBuds (q6_advM (q6_advS m bc sc hq fq hn n k).1 bc sc hq fq hn n k) 1 3)
section ADV6
variable {m m0 mA mB mC : ZM} {bc hq fq hn n k : Nat} {sc : Nat → Nat} {x2 x3 x4 : Int32}
theorem q6_adv_a (h : (m0, x2, x3) = q6_advS m bc sc hq fq hn n k) (eA : mA = q_copyWorks m0 1 0 bc sc fq hn) (eB : mB = zs mA (1, 1, 0) 8 (nI k)) (eC : mC = q_passM mB 1 bc (zsc mB) (zbu mB) hq n) (c : ¬ q_tinBuds mC 1 3 ≤ x3) (ex : x4 = q_tinBuds mC 1 3) : (mC, nI k, x4) = q6_advS m bc sc hq fq hn n (k + 1) := by
  subst ex eC eB eA
  rw [q6_advS, ← h]
  exact (if_neg c).symm
theorem q6_adv_b (h : (m0, x2, x3) = q6_advS m bc sc hq fq hn n k) (eA : mA = q_copyWorks m0 1 0 bc sc fq hn) (eB : mB = zs mA (1, 1, 0) 8 (nI k)) (eC : mC = q_passM mB 1 bc (zsc mB) (zbu mB) hq n) (c : q_tinBuds mC 1 3 ≤ x3) : (mC, x2, x3) = q6_advS m bc sc hq fq hn n (k + 1) := by
  subst eC eB eA
  rw [q6_advS, ← h]
  exact (if_pos c).symm
theorem q6_adv_f (h : zfr 1 m m0) (eA : mA = q_copyWorks m0 1 0 bc sc fq hn) (eB : mB = zs mA (1, 1, 0) 8 x2) {sc' bu' : Nat → Nat} (eC : mC = q_passM mB 1 bc sc' bu' hq n) : zfr 1 m mC := by
  subst eC eB eA
  exact zf_pass (zf_s (zf_tr h zC_works.1) zt_1)
def q6_advise (m : ZM) (bc : Nat) (sc : Nat → Nat) (hq fq hn : Nat) (h : Int32) : Z3 :=
  if q6_rh h 48 = 0 then (if q6_lh m h = 0 then (0, (q6_advS m bc sc hq fq hn h.toNatClampNeg 21).2.1, (q6_advS m bc sc hq fq hn h.toNatClampNeg 21).1) else (q6_lh m h, 0, m)) else (q6_rh h 48, 0, m)
theorem q6_adv_e (h : (m0, x2, x3) = q6_advS m bc sc hq fq hn n 21) : ((0, (q6_advS m bc sc hq fq hn n 21).2.1, (q6_advS m bc sc hq fq hn n 21).1) : Z3) = (0, x2, m0) := by rw [← h]
end ADV6
def q6_bwG (m : ZM) (o w : Nat) : Int32 := q_gradeOf (q_rockOfHead (m (7, 0, o) 0) (nI w)) (q_tinOfHead (m (7, 0, o) 1) (nI w))
def q6_bwS (m : ZM) (o : Nat) (x : Int32) : Nat → Int32 × Int32
  | 0 => (-1, -1)
  | n + 1 => if q_tinOfHead (m (7, 0, o) 1) (nI (10 + n)) < x then q6_bwS m o x n else if q6_bwG m o (10 + n) ≤ (q6_bwS m o x n).2 then q6_bwS m o x n else (nI (10 + n), q6_bwG m o (10 + n))
section BW6
variable {m : ZM} {o k : Nat} {x x4 x5 x8 : Int32}
theorem q6_bw_a (h : (x4, x5) = q6_bwS m o x (k - 10)) (hk : 10 ≤ k) (c : q_tinOfHead (m (7, 0, o) 1) (nI k) < x) : (x4, x5) = q6_bwS m o x (k + 1 - 10) := by
  rw [show k + 1 - 10 = (k - 10) + 1 by omega, q6_bwS, show 10 + (k - 10) = k by omega, if_pos c]
  exact h
theorem q6_bw_b (h : (x4, x5) = q6_bwS m o x (k - 10)) (hk : 10 ≤ k) (c : ¬ q_tinOfHead (m (7, 0, o) 1) (nI k) < x) (e : x8 = q6_bwG m o k) (c2 : ¬ x8 ≤ x5) : (nI k, x8) = q6_bwS m o x (k + 1 - 10) := by
  rw [show k + 1 - 10 = (k - 10) + 1 by omega, q6_bwS, show 10 + (k - 10) = k by omega, if_neg c, ← h]
  rw [e] at c2 ⊢
  exact (if_neg c2).symm
theorem q6_bw_c (h : (x4, x5) = q6_bwS m o x (k - 10)) (hk : 10 ≤ k) (c : ¬ q_tinOfHead (m (7, 0, o) 1) (nI k) < x) (e : x8 = q6_bwG m o k) (c2 : x8 ≤ x5) : (x4, x5) = q6_bwS m o x (k + 1 - 10) := by
  rw [show k + 1 - 10 = (k - 10) + 1 by omega, q6_bwS, show 10 + (k - 10) = k by omega, if_neg c, ← h]
  rw [e] at c2
  exact (if_pos c2).symm
theorem q6_bw_e (h : (x4, x5) = q6_bwS m o x (k - 10)) (hk : k = 91) : ((0, (q6_bwS m o x 81).1, m) : Z3) = (0, x4, m) := by
  subst hk
  rw [← h]
end BW6
def q6_bestWater (m : ZM) (b x : Int32) : Z3 :=
  if q6_ud b = 0 then (if 0 ≤ x then (if q_whole m (7, 0, 42 + b.toNatClampNeg) = 0 then (0, -1, m) else (0, (q6_bwS m (42 + b.toNatClampNeg) x 81).1, m)) else (2, 0, m)) else (q6_ud b, 0, m)
