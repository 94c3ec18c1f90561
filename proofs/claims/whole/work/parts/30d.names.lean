/-! the made world's names; the invariant at the start (by program: wip/whole/sp25.py) -/
def km0 : ZM := fun n k => match n.1 with
  | 1 => if k = 7 then 10000 else if k = 8 then 5 else 0
  | 2 => if n.2.1 < 2 ∨ n.2.1 = 10 ∨ n.2.1 = 30 then 200 else 0
  | 4 => if k = 5 then 50 else if k = 7 then 5 else 0
  | 13 => if k = 1 then 10000 else if k = 2 then 5 else 0
  | _ => 0
theorem karr_c {cA N : Nat} {f g : Nat → Value} (h : ∀ j, j < N → f j = g j) : arrV cA N f = arrV cA N g := by
  have e : (fun j : Fin N => f j.val) = (fun j : Fin N => g j.val) := funext (fun j => h j.val j.isLt)
  unfold arrV
  rw [e]
section KN
variable {D : va_G} {cy : Nat → ClassId} {ad : ZN → Nat} {n : ZN}
def kC (D : va_G) (cy : Nat → ClassId) (ad : ZN → Nat) (q : Nat × va_E) (n : ZN) : Prop := q.1 = ad n ∧ ∀ H, va_at D vwCl q H → va_at D vwCl (ad n, zc cy ad n (km0 n)) H
theorem kC_eq {q : Nat × va_E} (h : q = (ad n, zc cy ad n (km0 n))) : kC D cy ad q n := ⟨by rw [h], fun H hH => by rw [← h]; exact hH⟩
theorem kC_i {a cA N : Nat} {f g : Nat → Int32} (h1 : ad n = a) (hz : zc cy ad n (km0 n) = .inl (cA, N, .inl g)) (h : ∀ j, j < N → f j = g j) : kC D cy ad (a, .inl (cA, N, .inl f)) n := ⟨h1.symm, fun H hH => by
  rw [hz, h1]
  exact Eq.trans (show H[a]? = some (arrV cA N (fun j => .int (f j))) from hH) (congrArg some (karr_c (fun j hj => congrArg Value.int (h j hj))))⟩
theorem kC_q {a cA N : Nat} {f g : Nat → Option Nat} (h1 : ad n = a) (hz : zc cy ad n (km0 n) = .inl (cA, N, .inr (.inr (.inr (.inr g))))) (h : ∀ j, j < N → f j = g j) : kC D cy ad (a, .inl (cA, N, .inr (.inr (.inr (.inr f))))) n := ⟨h1.symm, fun H hH => by
  rw [hz, h1]
  exact Eq.trans (show H[a]? = some (arrV cA N (fun j => va_rf (f j))) from hH) (congrArg some (karr_c (fun j hj => congrArg va_rf (h j hj))))⟩
def kM (D : va_G) (cy : Nat → ClassId) (ad : ZN → Nat) (Z : va_W) (N : List ZN) : Prop := Z.length = N.length ∧ ∀ (i : Nat) (q : Nat × va_E) (n : ZN), Z[i]? = some q → N[i]? = some n → kC D cy ad q n
theorem kM_nil : kM D cy ad [] [] := ⟨rfl, fun i q n h _ => by simp at h⟩
theorem kM_cons {q : Nat × va_E} {Z : va_W} {N : List ZN} (h : kC D cy ad q n) (h2 : kM D cy ad Z N) : kM D cy ad (q :: Z) (n :: N) := by
  refine ⟨by simp [h2.1], fun i q' n' a b => ?_⟩
  cases i with
  | zero =>
    simp at a b
    rw [← a, ← b]
    exact h
  | succ i =>
    simp at a b
    exact h2.2 i q' n' a b
theorem kM_1 {q : Nat × va_E} (h : kC D cy ad q n) : kM D cy ad [q] [n] := kM_cons h kM_nil
theorem kM_app {Z1 Z2 : va_W} {L1 L2 : List ZN} (h2 : kM D cy ad Z2 L2) (h1 : kM D cy ad Z1 L1) : kM D cy ad (Z1 ++ Z2) (L1 ++ L2) := by
  refine ⟨by rw [List.length_append, List.length_append, h1.1, h2.1], fun i q n a b => ?_⟩
  by_cases hi : i < Z1.length
  · rw [List.getElem?_append_left hi] at a
    rw [List.getElem?_append_left (by rw [← h1.1]; exact hi)] at b
    exact h1.2 i q n a b
  · rw [List.getElem?_append_right (by omega)] at a
    rw [List.getElem?_append_right (by rw [← h1.1]; omega), ← h1.1] at b
    exact h2.2 _ q n a b
theorem kM_end {Z : va_W} {N : List ZN} (h : kM D cy ad Z N) : Z.map Prod.fst = (zw cy ad N km0).map Prod.fst ∧ ∀ H, va_P D vwCl Z H → va_P D vwCl (zw cy ad N km0) H := by
  refine ⟨?_, fun H hH k x hx => ?_⟩
  · apply List.ext_getElem?
    intro i
    rw [List.getElem?_map, List.getElem?_map]
    cases hn : N[i]? with
    | none =>
      have hz : Z[i]? = none := by rw [List.getElem?_eq_none_iff, h.1, ← List.getElem?_eq_none_iff]; exact hn
      have hw : (zw cy ad N km0)[i]? = none := by simp [zw, hn]
      rw [hz, hw]
    | some n =>
      have hw : (zw cy ad N km0)[i]? = some (ad n, zc cy ad n (km0 n)) := by simp [zw, hn]
      have hl : i < Z.length := by rw [h.1]; exact (List.getElem?_eq_some_iff.mp hn).1
      rw [List.getElem?_eq_getElem hl, hw]
      show some (Z[i]).1 = some (ad n)
      rw [(h.2 i Z[i] n (List.getElem?_eq_getElem hl) hn).1]
  · obtain ⟨n, hn, rfl⟩ := zw_of hx
    have hl : k < Z.length := by rw [h.1]; exact (List.getElem?_eq_some_iff.mp hn).1
    exact (h.2 k Z[k] n (List.getElem?_eq_getElem hl) hn).2 H (hH k Z[k] (List.getElem?_eq_getElem hl))
theorem kD_map {A : Nat → Prop} {Z W : va_W} (h : Z.map Prod.fst = W.map Prod.fst) (hD : va_D A Z) : va_D A W := by
  have g : ∀ (i : Nat) (p : Nat × va_E), W[i]? = some p → ∃ p' : Nat × va_E, Z[i]? = some p' ∧ p'.1 = p.1 := by
    intro i p hi
    have h1 : (W.map Prod.fst)[i]? = some p.1 := by rw [List.getElem?_map, hi]; rfl
    rw [← h, List.getElem?_map] at h1
    cases hz : Z[i]? with
    | none => rw [hz] at h1; cases h1
    | some p' =>
      rw [hz] at h1
      exact ⟨p', rfl, Option.some.inj h1⟩
  refine ⟨fun i j p q hi hj e => ?_, fun k q hk => ?_⟩
  · obtain ⟨p', a1, a2⟩ := g i p hi
    obtain ⟨q', b1, b2⟩ := g j q hj
    exact hD.1 i j p' q' a1 b1 (by rw [a2, b2]; exact e)
  · obtain ⟨q', b1, b2⟩ := g k q hk
    rw [← b2]
    exact hD.2 k q' b1
def lStamps (w b : Nat) : Nat → List ZN
  | 0 => []
  | k + 1 => lStamps w b k ++ [(6, w, 4 * b + k)]
def lOres (w : Nat) : Nat → List ZN
  | 0 => []
  | k + 1 => lOres w k ++ [(7, w, 42 + k)]
def lLots (w : Nat) : Nat → List ZN
  | 0 => []
  | k + 1 => lLots w k ++ [(10, w, k), (7, w, 12 + k)]
def lBox (w b : Nat) : List ZN := (4, w, b) :: (5, w, b) :: (((lStamps w b 4 ++ [(7, w, 3 * b)]) ++ [(7, w, 3 * b + 1)]) ++ [(7, w, 3 * b + 2)])
def lCat (w : Nat) : Nat → List ZN
  | 0 => []
  | k + 1 => lCat w k ++ lBox w k
def lHop (w : Nat) : List ZN := (8, w, 0) :: (9, w, 0) :: lLots w 30
def lWorks (w : Nat) : List ZN := (1, w, 0) :: (2, w, 24) :: (3, w, 0) :: (11, w, 0) :: ((((lCat w 4 ++ lHop w) ++ lOres w 3) ++ [(7, w, 45)]) ++ [(7, w, 46)])
def lState (w : Nat) : List ZN := [(13, w, 0), (2, 10 + 20 * w, 24), (2, 11 + 20 * w, 4), (2, 12 + 20 * w, 16), (2, 13 + 20 * w, 16), (2, 14 + 20 * w, 16), (2, 15 + 20 * w, 4), (2, 16 + 20 * w, 4), (2, 17 + 20 * w, 4), (2, 18 + 20 * w, 4), (2, 19 + 20 * w, 24), (2, 20 + 20 * w, 90), (2, 21 + 20 * w, 6)]
def lSW : List ZN := (0, 0, 0) :: (lWorks 0 ++ lWorks 1)
def lModel : List ZN := (12, 0, 0) :: (2, 60, 2) :: (lState 0 ++ lState 1)
def lAll : List ZN := (lSW ++ lModel) ++ [(14, 0, 0)]
theorem kM_stamps {U : Nat → Nat} {w b : Nat} : ∀ k, (∀ j, j < k → ad (6, w, 4 * b + j) = U j) → kM D cy ad (kStamps U k) (lStamps w b k) := by
  intro k
  induction k with
  | zero => exact fun _ => kM_nil
  | succ k ih =>
    intro h
    exact kM_app (Z1 := kStamps U k) (Z2 := [kStamp (U k)]) (L1 := lStamps w b k) (L2 := [(6, w, 4 * b + k)]) (kM_1 (kC_eq (by rw [h k (by omega)]; rfl))) (ih (fun j hj => h j (by omega)))
theorem kM_ore {a : Nat} {w k : Nat} (h : ad (7, w, k) = a) : kM D cy ad [kOre a] [(7, w, k)] := kM_1 (kC_eq (by rw [h]; rfl))
theorem kM_ores {U : Nat → Nat} {w : Nat} : ∀ k, (∀ j, j < k → ad (7, w, 42 + j) = U j) → kM D cy ad (kOres U k) (lOres w k) := by
  intro k
  induction k with
  | zero => exact fun _ => kM_nil
  | succ k ih =>
    intro h
    exact kM_app (kM_ore (h k (by omega))) (ih (fun j hj => h j (by omega)))
theorem kM_lots {La Ra : Nat → Nat} {w : Nat} : ∀ k, (∀ j, j < k → ad (10, w, j) = La j ∧ ad (7, w, 12 + j) = Ra j) → kM D cy ad (kLots La Ra k) (lLots w k) := by
  intro k
  induction k with
  | zero => exact fun _ => kM_nil
  | succ k ih =>
    intro h
    obtain ⟨h1, h2⟩ := h k (by omega)
    exact kM_app (Z1 := kLots La Ra k) (Z2 := [(La k, .inr (2, [.ref (Ra k), .int 0])), kOre (Ra k)]) (L1 := lLots w k) (L2 := [(10, w, k), (7, w, 12 + k)]) (kM_cons (kC_eq (by rw [← h1, ← h2]; rfl)) (kM_ore h2)) (ih (fun j hj => h j (by omega)))
def kBoxAt (cy : Nat → ClassId) (h0 : Nat) (Z : va_W) (d : Nat × Nat × Nat × Nat × (Nat → Nat)) : Prop := ∃ f : Nat → Option Nat, Z = (h0, .inr (0, [.ref d.1, .ref d.2.1, .ref d.2.2.1, .ref d.2.2.2.1, .int 0, .int 50, .int 0, .int 5, .int 0])) :: (d.1, .inl (cy 4, 4, .inr (.inr (.inr (.inr f))))) :: (((kStamps d.2.2.2.2 4 ++ [kOre d.2.1]) ++ [kOre d.2.2.1]) ++ [kOre d.2.2.2.1]) ∧ ∀ j, j < 4 → f j = some (d.2.2.2.2 j)
theorem kBox_at {h0 : Nat} {Z : va_W} (h : kBox cy h0 Z) : ∃ d, kBoxAt cy h0 Z d := by
  obtain ⟨q1, o0, o1, o2, f, Sa, h1, h2⟩ := h
  exact ⟨(q1, o0, o1, o2, Sa), f, h1, h2⟩
theorem kM_box {h0 w b : Nat} {Z : va_W} {d : Nat × Nat × Nat × Nat × (Nat → Nat)} (h : kBoxAt cy h0 Z d) (a4 : ad (4, w, b) = h0) (a5 : ad (5, w, b) = d.1) (a0 : ad (7, w, 3 * b) = d.2.1) (a1 : ad (7, w, 3 * b + 1) = d.2.2.1) (a2 : ad (7, w, 3 * b + 2) = d.2.2.2.1) (a6 : ∀ j, j < 4 → ad (6, w, 4 * b + j) = d.2.2.2.2 j) : kM D cy ad Z (lBox w b) := by
  obtain ⟨f, rfl, hf⟩ := h
  refine kM_cons (kC_eq ?_) (kM_cons (kC_q a5 rfl (fun j hj => by rw [hf j hj, a6 j hj])) (kM_app (kM_ore a2) (kM_app (kM_ore a1) (kM_app (kM_ore a0) (kM_stamps 4 a6)))))
  show _ = ((ad (4, w, b), Sum.inr (0, [.ref (ad (5, w, b)), .ref (ad (7, w, 3 * b)), .ref (ad (7, w, 3 * b + 1)), .ref (ad (7, w, 3 * b + 2)), .int 0, .int 50, .int 0, .int 5, .int 0])) : Nat × va_E)
  rw [a4, a5, a0, a1, a2]
theorem kM_cat {V : Nat → va_W} {w : Nat} : ∀ k, (∀ j, j < k → kM D cy ad (V j) (lBox w j)) → kM D cy ad (kCat V k) (lCat w k) := by
  intro k
  induction k with
  | zero => exact fun _ => kM_nil
  | succ k ih =>
    intro h
    exact kM_app (h k (by omega)) (ih (fun j hj => h j (by omega)))
theorem kM_hop {w qh ql : Nat} {f : Nat → Option Nat} {La Ra : Nat → Nat} (b8 : ad (8, w, 0) = qh) (b9 : ad (9, w, 0) = ql) (hl : ∀ j, j < 30 → f j = some (La j)) (b : ∀ j, j < 30 → ad (10, w, j) = La j ∧ ad (7, w, 12 + j) = Ra j) : kM D cy ad ((qh, .inr (1, [.ref ql, .int 0, .int 0])) :: (ql, .inl (cy 2, 30, .inr (.inr (.inr (.inr f))))) :: kLots La Ra 30) (lHop w) := by
  have g1 : kC D cy ad (qh, .inr (1, [.ref ql, .int 0, .int 0])) (8, w, 0) := kC_eq (by
    show _ = ((ad (8, w, 0), Sum.inr (1, [.ref (ad (9, w, 0)), .int 0, .int 0])) : Nat × va_E)
    rw [b8, b9])
  have g2 : kC D cy ad (ql, .inl (cy 2, 30, .inr (.inr (.inr (.inr f))))) (9, w, 0) := kC_q (cA := cy 2) (N := 30) (g := fun i => some (ad (10, w, i))) b9 rfl (fun j hj => (hl j hj).trans (congrArg some (b j hj).1.symm))
  have g3 := kM_lots (D := D) (cy := cy) (ad := ad) 30 b
  unfold lHop
  exact kM_cons g1 (kM_cons g2 g3)
/-- the addresses of one works' things -/
def kaw (h0 q1 q2 q3 qh so to ql : Nat) (U U2 La Ra : Nat → Nat) (F : Nat → Nat × Nat × Nat × Nat × (Nat → Nat)) (n : ZN) : Nat := match n.1 with
  | 1 => h0
  | 2 => q1
  | 3 => q2
  | 4 => U n.2.2
  | 5 => (F n.2.2).1
  | 6 => (F (n.2.2 / 4)).2.2.2.2 (n.2.2 % 4)
  | 7 => if n.2.2 < 12 then (if n.2.2 % 3 = 0 then (F (n.2.2 / 3)).2.1 else if n.2.2 % 3 = 1 then (F (n.2.2 / 3)).2.2.1 else (F (n.2.2 / 3)).2.2.2.1) else if n.2.2 < 42 then Ra (n.2.2 - 12) else if n.2.2 < 45 then U2 (n.2.2 - 42) else if n.2.2 = 45 then so else to
  | 8 => qh
  | 9 => ql
  | 10 => La n.2.2
  | _ => q3
theorem kM_works {h0 w : Nat} (gw : w < 2) {Z : va_W} (h : kWorks cy h0 Z) : ∃ aw : ZN → Nat, aw (1, w, 0) = h0 ∧ ∀ ad : ZN → Nat, (∀ n : ZN, n.2.1 = w → 1 ≤ n.1 → n.1 ≤ 11 → ad n = aw n) → kM D cy ad Z (lWorks w) := by
  obtain ⟨q1, q2, q3, qh, so, to, g, f, U, V, ZH, f2, U2, rfl, hg, hf, hB, ⟨ql, fl, La, Ra, rfl, hl⟩, hf2⟩ := h
  have hd : ∀ j, ∃ d, j < 4 → kBoxAt cy (U j) (V j) d := fun j => by
    by_cases hj : j < 4
    · obtain ⟨d, hd⟩ := kBox_at (hB j hj)
      exact ⟨d, fun _ => hd⟩
    · exact ⟨(0, 0, 0, 0, fun _ => 0), fun h => absurd h hj⟩
  obtain ⟨F, hF⟩ := Classical.axiomOfChoice hd
  refine ⟨kaw h0 q1 q2 q3 qh so to ql U U2 La Ra F, rfl, fun ad had => ?_⟩
  have b1 : ad (1, w, 0) = h0 := had (1, w, 0) rfl (Nat.le_of_ble_eq_true rfl) (Nat.le_of_ble_eq_true rfl)
  have b2 : ad (2, w, 24) = q1 := had (2, w, 24) rfl (Nat.le_of_ble_eq_true rfl) (Nat.le_of_ble_eq_true rfl)
  have b3 : ad (3, w, 0) = q2 := had (3, w, 0) rfl (Nat.le_of_ble_eq_true rfl) (Nat.le_of_ble_eq_true rfl)
  have b8 : ad (8, w, 0) = qh := had (8, w, 0) rfl (Nat.le_of_ble_eq_true rfl) (Nat.le_of_ble_eq_true rfl)
  have b9 : ad (9, w, 0) = ql := had (9, w, 0) rfl (Nat.le_of_ble_eq_true rfl) (Nat.le_of_ble_eq_true rfl)
  have b11 : ad (11, w, 0) = q3 := had (11, w, 0) rfl (Nat.le_of_ble_eq_true rfl) (Nat.le_of_ble_eq_true rfl)
  have b45 : ad (7, w, 45) = so := had (7, w, 45) rfl (Nat.le_of_ble_eq_true rfl) (Nat.le_of_ble_eq_true rfl)
  have b46 : ad (7, w, 46) = to := had (7, w, 46) rfl (Nat.le_of_ble_eq_true rfl) (Nat.le_of_ble_eq_true rfl)
  have b4 : ∀ j, ad (4, w, j) = U j := fun j => had (4, w, j) rfl (Nat.le_of_ble_eq_true rfl) (Nat.le_of_ble_eq_true rfl)
  have b5 : ∀ j, ad (5, w, j) = (F j).1 := fun j => had (5, w, j) rfl (Nat.le_of_ble_eq_true rfl) (Nat.le_of_ble_eq_true rfl)
  have b10 : ∀ j, ad (10, w, j) = La j := fun j => had (10, w, j) rfl (Nat.le_of_ble_eq_true rfl) (Nat.le_of_ble_eq_true rfl)
  have b6 : ∀ b j, j < 4 → ad (6, w, 4 * b + j) = (F b).2.2.2.2 j := fun b j hj => by
    rw [had (6, w, 4 * b + j) rfl (Nat.le_of_ble_eq_true rfl) (Nat.le_of_ble_eq_true rfl)]
    show (F ((4 * b + j) / 4)).2.2.2.2 ((4 * b + j) % 4) = _
    rw [show (4 * b + j) / 4 = b by omega, show (4 * b + j) % 4 = j by omega]
  have b7 : ∀ k, ad (7, w, k) = kaw h0 q1 q2 q3 qh so to ql U U2 La Ra F (7, w, k) := fun k => had (7, w, k) rfl (Nat.le_of_ble_eq_true rfl) (Nat.le_of_ble_eq_true rfl)
  have b70 : ∀ b, b < 4 → ad (7, w, 3 * b) = (F b).2.1 ∧ ad (7, w, 3 * b + 1) = (F b).2.2.1 ∧ ad (7, w, 3 * b + 2) = (F b).2.2.2.1 := fun b hb => by
    refine ⟨?_, ?_, ?_⟩
    · rw [b7]
      show (if 3 * b < 12 then (if 3 * b % 3 = 0 then (F (3 * b / 3)).2.1 else _) else _) = _
      rw [if_pos (by omega), if_pos (by omega), show 3 * b / 3 = b by omega]
    · rw [b7]
      show (if 3 * b + 1 < 12 then (if (3 * b + 1) % 3 = 0 then _ else if (3 * b + 1) % 3 = 1 then (F ((3 * b + 1) / 3)).2.2.1 else _) else _) = _
      rw [if_pos (by omega), if_neg (by omega), if_pos (by omega), show (3 * b + 1) / 3 = b by omega]
    · rw [b7]
      show (if 3 * b + 2 < 12 then (if (3 * b + 2) % 3 = 0 then _ else if (3 * b + 2) % 3 = 1 then _ else (F ((3 * b + 2) / 3)).2.2.2.1) else _) = _
      rw [if_pos (by omega), if_neg (by omega), if_neg (by omega), show (3 * b + 2) / 3 = b by omega]
  have b7l : ∀ j, j < 30 → ad (7, w, 12 + j) = Ra j := fun j hj => by
    rw [b7]
    show (if 12 + j < 12 then _ else if 12 + j < 42 then Ra (12 + j - 12) else _) = _
    rw [if_neg (by omega), if_pos (by omega), Nat.add_sub_cancel_left]
  have b7o : ∀ j, j < 3 → ad (7, w, 42 + j) = U2 j := fun j hj => by
    rw [b7]
    show (if 42 + j < 12 then _ else if 42 + j < 42 then _ else if 42 + j < 45 then U2 (42 + j - 42) else _) = _
    rw [if_neg (by omega), if_neg (by omega), if_pos (by omega), Nat.add_sub_cancel_left]
  refine kM_cons (kC_eq ?_) (kM_cons (kC_i b2 rfl (fun j hj => ?_)) (kM_cons (kC_q b3 rfl (fun j hj => by rw [hf j hj, b4])) (kM_cons (kC_q b11 rfl (fun j hj => by rw [hf2 j hj, b7o j hj])) ?_)))
  · show _ = ((ad (1, w, 0), Sum.inr (5, [.ref (ad (2, w, 24)), .ref (ad (3, w, 0)), .ref (ad (8, w, 0)), .ref (ad (11, w, 0)), .ref (ad (7, w, 45)), .ref (ad (7, w, 46)), .int 0, .int 10000, .int 5, .int 0, .int 0, .int 0])) : Nat × va_E)
    rw [b1, b2, b3, b8, b11, b45, b46]
  · rw [hg j hj]
    show (200 : Int32) = if w < 2 ∨ w = 10 ∨ w = 30 then 200 else 0
    rw [if_pos (Or.inl gw)]
  · refine kM_app (kM_ore b46) (kM_app (kM_ore b45) (kM_app (kM_ores 3 b7o) (kM_app ?_ (kM_cat 4 (fun j hj => kM_box (hF j hj) (b4 j) (b5 j) (b70 j hj).1 (b70 j hj).2.1 (b70 j hj).2.2 (b6 j))))))
    exact kM_hop b8 b9 hl (fun j hj => ⟨b10 j, b7l j hj⟩)

def kas (a0 a1 a2 a3 a4 a5 a6 a7 a8 a9 a10 a11 w : Nat) (n : ZN) : Nat := match n.2.1 - 20 * w with
  | 10 => a0
  | 11 => a1
  | 12 => a2
  | 13 => a3
  | 14 => a4
  | 15 => a5
  | 16 => a6
  | 17 => a7
  | 18 => a8
  | 19 => a9
  | 20 => a10
  | _ => a11
theorem kM_state0 {h0 : Nat} {Z : va_W} (h : kState cy h0 Z) : ∃ aw : ZN → Nat, ∀ ad : ZN → Nat, ad (13, 0, 0) = h0 → (∀ n : ZN, n.1 = 2 → 10 + 20 * 0 ≤ n.2.1 → n.2.1 < 30 + 20 * 0 → ad n = aw n) → kM D cy ad Z (lState 0) := by
  obtain ⟨a0, a1, a2, a3, a4, a5, a6, a7, a8, a9, a10, a11, g, rfl, hg⟩ := h
  refine ⟨kas a0 a1 a2 a3 a4 a5 a6 a7 a8 a9 a10 a11 0, fun ad b13 had => ?_⟩
  have b10 : ad (2, 10 + 20 * 0, 24) = a0 := had (2, 10 + 20 * 0, 24) rfl (Nat.le_of_ble_eq_true rfl) (Nat.le_of_ble_eq_true rfl)
  have b11 : ad (2, 11 + 20 * 0, 4) = a1 := had (2, 11 + 20 * 0, 4) rfl (Nat.le_of_ble_eq_true rfl) (Nat.le_of_ble_eq_true rfl)
  have b12 : ad (2, 12 + 20 * 0, 16) = a2 := had (2, 12 + 20 * 0, 16) rfl (Nat.le_of_ble_eq_true rfl) (Nat.le_of_ble_eq_true rfl)
  have c13 : ad (2, 13 + 20 * 0, 16) = a3 := had (2, 13 + 20 * 0, 16) rfl (Nat.le_of_ble_eq_true rfl) (Nat.le_of_ble_eq_true rfl)
  have b14 : ad (2, 14 + 20 * 0, 16) = a4 := had (2, 14 + 20 * 0, 16) rfl (Nat.le_of_ble_eq_true rfl) (Nat.le_of_ble_eq_true rfl)
  have b15 : ad (2, 15 + 20 * 0, 4) = a5 := had (2, 15 + 20 * 0, 4) rfl (Nat.le_of_ble_eq_true rfl) (Nat.le_of_ble_eq_true rfl)
  have b16 : ad (2, 16 + 20 * 0, 4) = a6 := had (2, 16 + 20 * 0, 4) rfl (Nat.le_of_ble_eq_true rfl) (Nat.le_of_ble_eq_true rfl)
  have b17 : ad (2, 17 + 20 * 0, 4) = a7 := had (2, 17 + 20 * 0, 4) rfl (Nat.le_of_ble_eq_true rfl) (Nat.le_of_ble_eq_true rfl)
  have b18 : ad (2, 18 + 20 * 0, 4) = a8 := had (2, 18 + 20 * 0, 4) rfl (Nat.le_of_ble_eq_true rfl) (Nat.le_of_ble_eq_true rfl)
  have b19 : ad (2, 19 + 20 * 0, 24) = a9 := had (2, 19 + 20 * 0, 24) rfl (Nat.le_of_ble_eq_true rfl) (Nat.le_of_ble_eq_true rfl)
  have b20 : ad (2, 20 + 20 * 0, 90) = a10 := had (2, 20 + 20 * 0, 90) rfl (Nat.le_of_ble_eq_true rfl) (Nat.le_of_ble_eq_true rfl)
  have b21 : ad (2, 21 + 20 * 0, 6) = a11 := had (2, 21 + 20 * 0, 6) rfl (Nat.le_of_ble_eq_true rfl) (Nat.le_of_ble_eq_true rfl)
  refine kM_cons (kC_eq ?_) (kM_cons (kC_i b10 rfl (fun j hj => (hg j hj).trans rfl)) (kM_cons (kC_i b11 rfl (fun j hj => rfl)) (kM_cons (kC_i b12 rfl (fun j hj => rfl)) (kM_cons (kC_i c13 rfl (fun j hj => rfl)) (kM_cons (kC_i b14 rfl (fun j hj => rfl)) (kM_cons (kC_i b15 rfl (fun j hj => rfl)) (kM_cons (kC_i b16 rfl (fun j hj => rfl)) (kM_cons (kC_i b17 rfl (fun j hj => rfl)) (kM_cons (kC_i b18 rfl (fun j hj => rfl)) (kM_cons (kC_i b19 rfl (fun j hj => rfl)) (kM_cons (kC_i b20 rfl (fun j hj => rfl)) (kM_cons (kC_i b21 rfl (fun j hj => rfl)) kM_nil))))))))))))
  show _ = ((ad (13, 0, 0), Sum.inr (7, [.int 0, .int 10000, .int 5, .ref (ad (2, 10 + 20 * 0, 24)), .int 0, .ref (ad (2, 11 + 20 * 0, 4)), .ref (ad (2, 12 + 20 * 0, 16)), .ref (ad (2, 13 + 20 * 0, 16)), .ref (ad (2, 14 + 20 * 0, 16)), .ref (ad (2, 15 + 20 * 0, 4)), .ref (ad (2, 16 + 20 * 0, 4)), .ref (ad (2, 17 + 20 * 0, 4)), .ref (ad (2, 18 + 20 * 0, 4)), .ref (ad (2, 19 + 20 * 0, 24)), .int 0, .ref (ad (2, 20 + 20 * 0, 90)), .ref (ad (2, 21 + 20 * 0, 6)), .int 0])) : Nat × va_E)
  rw [b13, b10, b11, b12, c13, b14, b15, b16, b17, b18, b19, b20, b21]
theorem kM_state1 {h0 : Nat} {Z : va_W} (h : kState cy h0 Z) : ∃ aw : ZN → Nat, ∀ ad : ZN → Nat, ad (13, 1, 0) = h0 → (∀ n : ZN, n.1 = 2 → 10 + 20 * 1 ≤ n.2.1 → n.2.1 < 30 + 20 * 1 → ad n = aw n) → kM D cy ad Z (lState 1) := by
  obtain ⟨a0, a1, a2, a3, a4, a5, a6, a7, a8, a9, a10, a11, g, rfl, hg⟩ := h
  refine ⟨kas a0 a1 a2 a3 a4 a5 a6 a7 a8 a9 a10 a11 1, fun ad b13 had => ?_⟩
  have b10 : ad (2, 10 + 20 * 1, 24) = a0 := had (2, 10 + 20 * 1, 24) rfl (Nat.le_of_ble_eq_true rfl) (Nat.le_of_ble_eq_true rfl)
  have b11 : ad (2, 11 + 20 * 1, 4) = a1 := had (2, 11 + 20 * 1, 4) rfl (Nat.le_of_ble_eq_true rfl) (Nat.le_of_ble_eq_true rfl)
  have b12 : ad (2, 12 + 20 * 1, 16) = a2 := had (2, 12 + 20 * 1, 16) rfl (Nat.le_of_ble_eq_true rfl) (Nat.le_of_ble_eq_true rfl)
  have c13 : ad (2, 13 + 20 * 1, 16) = a3 := had (2, 13 + 20 * 1, 16) rfl (Nat.le_of_ble_eq_true rfl) (Nat.le_of_ble_eq_true rfl)
  have b14 : ad (2, 14 + 20 * 1, 16) = a4 := had (2, 14 + 20 * 1, 16) rfl (Nat.le_of_ble_eq_true rfl) (Nat.le_of_ble_eq_true rfl)
  have b15 : ad (2, 15 + 20 * 1, 4) = a5 := had (2, 15 + 20 * 1, 4) rfl (Nat.le_of_ble_eq_true rfl) (Nat.le_of_ble_eq_true rfl)
  have b16 : ad (2, 16 + 20 * 1, 4) = a6 := had (2, 16 + 20 * 1, 4) rfl (Nat.le_of_ble_eq_true rfl) (Nat.le_of_ble_eq_true rfl)
  have b17 : ad (2, 17 + 20 * 1, 4) = a7 := had (2, 17 + 20 * 1, 4) rfl (Nat.le_of_ble_eq_true rfl) (Nat.le_of_ble_eq_true rfl)
  have b18 : ad (2, 18 + 20 * 1, 4) = a8 := had (2, 18 + 20 * 1, 4) rfl (Nat.le_of_ble_eq_true rfl) (Nat.le_of_ble_eq_true rfl)
  have b19 : ad (2, 19 + 20 * 1, 24) = a9 := had (2, 19 + 20 * 1, 24) rfl (Nat.le_of_ble_eq_true rfl) (Nat.le_of_ble_eq_true rfl)
  have b20 : ad (2, 20 + 20 * 1, 90) = a10 := had (2, 20 + 20 * 1, 90) rfl (Nat.le_of_ble_eq_true rfl) (Nat.le_of_ble_eq_true rfl)
  have b21 : ad (2, 21 + 20 * 1, 6) = a11 := had (2, 21 + 20 * 1, 6) rfl (Nat.le_of_ble_eq_true rfl) (Nat.le_of_ble_eq_true rfl)
  refine kM_cons (kC_eq ?_) (kM_cons (kC_i b10 rfl (fun j hj => (hg j hj).trans rfl)) (kM_cons (kC_i b11 rfl (fun j hj => rfl)) (kM_cons (kC_i b12 rfl (fun j hj => rfl)) (kM_cons (kC_i c13 rfl (fun j hj => rfl)) (kM_cons (kC_i b14 rfl (fun j hj => rfl)) (kM_cons (kC_i b15 rfl (fun j hj => rfl)) (kM_cons (kC_i b16 rfl (fun j hj => rfl)) (kM_cons (kC_i b17 rfl (fun j hj => rfl)) (kM_cons (kC_i b18 rfl (fun j hj => rfl)) (kM_cons (kC_i b19 rfl (fun j hj => rfl)) (kM_cons (kC_i b20 rfl (fun j hj => rfl)) (kM_cons (kC_i b21 rfl (fun j hj => rfl)) kM_nil))))))))))))
  show _ = ((ad (13, 1, 0), Sum.inr (7, [.int 0, .int 10000, .int 5, .ref (ad (2, 10 + 20 * 1, 24)), .int 0, .ref (ad (2, 11 + 20 * 1, 4)), .ref (ad (2, 12 + 20 * 1, 16)), .ref (ad (2, 13 + 20 * 1, 16)), .ref (ad (2, 14 + 20 * 1, 16)), .ref (ad (2, 15 + 20 * 1, 4)), .ref (ad (2, 16 + 20 * 1, 4)), .ref (ad (2, 17 + 20 * 1, 4)), .ref (ad (2, 18 + 20 * 1, 4)), .ref (ad (2, 19 + 20 * 1, 24)), .int 0, .ref (ad (2, 20 + 20 * 1, 90)), .ref (ad (2, 21 + 20 * 1, 6)), .int 0])) : Nat × va_E)
  rw [b13, b10, b11, b12, c13, b14, b15, b16, b17, b18, b19, b20, b21]
def kad (h0 hm sa sb q3 qs : Nat) (w0 w1 s0 s1 : ZN → Nat) (n : ZN) : Nat := match n.1 with
  | 0 => h0
  | 12 => hm
  | 13 => if n.2.1 = 0 then sa else sb
  | 14 => q3
  | 2 => if n.2.1 = 0 then w0 n else if n.2.1 = 1 then w1 n else if n.2.1 = 60 then qs else if n.2.1 < 30 then s0 n else s1 n
  | _ => if n.2.1 = 0 then w0 n else w1 n
/-- the made things have names -/
theorem kM_all {h0 hm q3 : Nat} {Zs Zm : va_W} (hs : kSW cy h0 Zs) (hm1 : kModel cy hm Zm) : ∃ ad : ZN → Nat, ad (0, 0, 0) = h0 ∧ ad (12, 0, 0) = hm ∧ ad (14, 0, 0) = q3 ∧ kM D cy ad ((Zs ++ Zm) ++ [(q3, .inl (cy 5, 1, .inr (.inl (fun _ => 0))))]) lAll := by
  obtain ⟨a, b, Za, Zb, rfl, ha, hb⟩ := hs
  obtain ⟨sa, sb, qs, Sa, Sb, rfl, hsa, hsb⟩ := hm1
  obtain ⟨w0, hw0, kw0⟩ := kM_works (D := D) (w := 0) (by decide) ha
  obtain ⟨w1, hw1, kw1⟩ := kM_works (D := D) (w := 1) (by decide) hb
  obtain ⟨s0, ks0⟩ := kM_state0 (D := D) hsa
  obtain ⟨s1, ks1⟩ := kM_state1 (D := D) hsb
  refine ⟨kad h0 hm sa sb q3 qs w0 w1 s0 s1, rfl, rfl, rfl, ?_⟩
  have g0 := kw0 (kad h0 hm sa sb q3 qs w0 w1 s0 s1) (fun n h1 h2 h3 => by
    obtain ⟨x, y, z⟩ := n
    have h1 : y = 0 := h1
    have h2 : 1 ≤ x := h2
    have h3 : x ≤ 11 := h3
    subst h1
    rcases (show x = 1 ∨ x = 2 ∨ x = 3 ∨ x = 4 ∨ x = 5 ∨ x = 6 ∨ x = 7 ∨ x = 8 ∨ x = 9 ∨ x = 10 ∨ x = 11 by omega) with rfl | rfl | rfl | rfl | rfl | rfl | rfl | rfl | rfl | rfl | rfl <;> rfl)
  have g1 := kw1 (kad h0 hm sa sb q3 qs w0 w1 s0 s1) (fun n h1 h2 h3 => by
    obtain ⟨x, y, z⟩ := n
    have h1 : y = 1 := h1
    have h2 : 1 ≤ x := h2
    have h3 : x ≤ 11 := h3
    subst h1
    rcases (show x = 1 ∨ x = 2 ∨ x = 3 ∨ x = 4 ∨ x = 5 ∨ x = 6 ∨ x = 7 ∨ x = 8 ∨ x = 9 ∨ x = 10 ∨ x = 11 by omega) with rfl | rfl | rfl | rfl | rfl | rfl | rfl | rfl | rfl | rfl | rfl <;> rfl)
  have g2 := ks0 (kad h0 hm sa sb q3 qs w0 w1 s0 s1) rfl (fun n h1 h2 h3 => by
    obtain ⟨x, y, z⟩ := n
    have h1 : x = 2 := h1
    have h2 : 10 + 20 * 0 ≤ y := h2
    have h3 : y < 30 + 20 * 0 := h3
    subst h1
    show (if y = 0 then _ else if y = 1 then _ else if y = 60 then _ else if y < 30 then s0 (2, y, z) else _) = _
    rw [if_neg (by omega), if_neg (by omega), if_neg (by omega), if_pos (by omega)])
  have g3 := ks1 (kad h0 hm sa sb q3 qs w0 w1 s0 s1) rfl (fun n h1 h2 h3 => by
    obtain ⟨x, y, z⟩ := n
    have h1 : x = 2 := h1
    have h2 : 10 + 20 * 1 ≤ y := h2
    have h3 : y < 30 + 20 * 1 := h3
    subst h1
    show (if y = 0 then _ else if y = 1 then _ else if y = 60 then _ else if y < 30 then _ else s1 (2, y, z)) = _
    rw [if_neg (by omega), if_neg (by omega), if_neg (by omega), if_neg (by omega)])
  refine kM_app (Z1 := ((h0, .inr (6, [.ref a, .ref b])) :: (Za ++ Zb)) ++ ((hm, .inr (8, [.int 0, .ref sa, .ref sb, .ref qs, .int 0, .int 0, .int 0])) :: kIA cy qs 2 :: (Sa ++ Sb))) (L1 := lSW ++ lModel) (Z2 := [(q3, .inl (cy 5, 1, .inr (.inl (fun _ => 0))))]) (L2 := [(14, 0, 0)]) (kM_1 (kC_eq rfl)) (kM_app (Z1 := (h0, .inr (6, [.ref a, .ref b])) :: (Za ++ Zb)) (L1 := lSW) (L2 := lModel) ?_ ?_)
  · exact kM_cons (kC_eq rfl) (kM_cons (kC_i rfl rfl (fun j hj => rfl)) (kM_app g3 g2))
  · refine kM_cons (kC_eq ?_) (kM_app g1 g0)
    show _ = ((h0, Sum.inr (6, [.ref (w0 (1, 0, 0)), .ref (w1 (1, 1, 0))])) : Nat × va_E)
    rw [hw0, hw1]
end KN
