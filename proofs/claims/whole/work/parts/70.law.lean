/-! the law's cases; hmain -/
theorem INV_v {v v' w : gV} (h : INV v w) (e : ∀ k, k < 81 → v' k = v k) : INV v' w := INV_congr h (fun k q => e k (by omega)) (fun _ _ => rfl) rfl rfl
theorem INV_w {v w w' : gV} (h : INV v w) (e : ∀ k, 81 ≤ k → w' k = w k) : INV v w' := INV_congr h (fun _ _ => rfl) (fun k q => e k (by omega)) (by rw [e 81 (by decide)]) (by rw [e 81 (by decide)])
theorem cmp_self (x : Int64) : lg_cmp x x = 0 := by
  unfold lg_cmp
  rw [if_neg (show ¬ x > x from Int64.lt_irrefl), if_pos rfl]
theorem law_tail {a b : Nat} {o : Nat ⊕ Int32} {r : Int32} {v1 w1 : gV} {R : gV → Option (Int32 × gV)} (g2 : R v1 = some (r, w1)) (hm : MT a b o r w1) (u : Int64) (F : gV → Int64 → Int32 → Option Int32) (x4 : Int32) : ∃ u', ((gOut o a b v1 u).bind fun q_1 => (R q_1.2.1).bind fun q_2 => (sX6_thrown q_2.2).bind fun q_3 => if q_3 = q_1.1 then (if q_1.1 = 0 then (if (lg_cmp q_1.2.2 q_2.1.toInt64) = 0 then (F q_2.2 q_1.2.2 (x4 + 4)) else (some 0)) else (F q_2.2 q_1.2.2 (x4 + 4))) else (some 0)) = F w1 u' (x4 + 4) := by
  have ht : sX6_thrown w1 = some (w1 81 8) := rfl
  rcases hm with ⟨e, h8⟩ | ⟨hab, e, h8⟩ | ⟨y, e, e2, h8⟩
  · refine ⟨u, ?_⟩
    rw [e, show gOut (.inl a) a b v1 u = some (1, v1, u) from if_pos rfl, ob]
    dsimp only
    rw [g2, ob]
    dsimp only
    rw [ht, ob, h8, if_pos rfl, if_neg one_ne]
  · refine ⟨u, ?_⟩
    rw [e, show gOut (.inl b) a b v1 u = some (2, v1, u) from (if_neg (fun z => hab z.symm)).trans (if_pos rfl), ob]
    dsimp only
    rw [g2, ob]
    dsimp only
    rw [ht, ob, h8, if_pos rfl, if_neg (by decide)]
  · refine ⟨y.toInt64, ?_⟩
    rw [e, show gOut (.inr y) a b v1 u = some (0, v1, y.toInt64) from rfl, ob]
    dsimp only
    rw [g2, ob]
    dsimp only
    rw [ht, ob, h8, if_pos rfl, if_pos rfl, e2, cmp_self, if_pos rfl]
theorem law_ms {a b : Nat} {C : gV → Option ((Nat ⊕ Int32) × gV)} {R : gV → Option (Int32 × gV)} (hM : ∀ v w, INV v w → MS v w a b (C v) (R w)) {v : gV} (h : INV v v) (u : Int64) (F : gV → Int64 → Int32 → Option Int32) (x4 : Int32) : ∃ w' u', INV w' w' ∧ (((C v).bind fun q => gOut q.1 a b q.2 u).bind fun q_1 => (R q_1.2.1).bind fun q_2 => (sX6_thrown q_2.2).bind fun q_3 => if q_3 = q_1.1 then (if q_1.1 = 0 then (if (lg_cmp q_1.2.2 q_2.1.toInt64) = 0 then (F q_2.2 q_1.2.2 (x4 + 4)) else (some 0)) else (F q_2.2 q_1.2.2 (x4 + 4))) else (some 0)) = F w' u' (x4 + 4) := by
  obtain ⟨o, v1, _, _, e1, _, f1, _⟩ := hM v v h
  obtain ⟨o2, v2, r, w1, g1, g2, g3, g4, g5, g6⟩ := hM v v1 (INV_w h f1)
  rw [e1] at g1
  have e := Option.some.inj g1
  have eo : o = o2 := congrArg Prod.fst e
  have ev : v1 = v2 := congrArg Prod.snd e
  subst eo
  subst ev
  obtain ⟨u', hu⟩ := law_tail g2 g6 u F x4
  refine ⟨w1, u', INV_v g5 g4, ?_⟩
  rw [e1, ob]
  exact hu
theorem law_tp {a b : Nat} {C : gV → Option (Nat ⊕ Int32)} {R : gV → Option (Int32 × gV)} (hM : ∀ v w, INV v w → ∃ o r w', C v = some o ∧ R w = some (r, w') ∧ RF w w' ∧ INV v w' ∧ MT a b o r w') {v : gV} (h : INV v v) (u : Int64) (F : gV → Int64 → Int32 → Option Int32) (x4 : Int32) : ∃ w' u', INV w' w' ∧ (((C v).bind fun q => gOut q a b v u).bind fun q_1 => (R q_1.2.1).bind fun q_2 => (sX6_thrown q_2.2).bind fun q_3 => if q_3 = q_1.1 then (if q_1.1 = 0 then (if (lg_cmp q_1.2.2 q_2.1.toInt64) = 0 then (F q_2.2 q_1.2.2 (x4 + 4)) else (some 0)) else (F q_2.2 q_1.2.2 (x4 + 4))) else (some 0)) = F w' u' (x4 + 4) := by
  obtain ⟨o, r, w1, g1, g2, g4, g5, g6⟩ := hM v v h
  obtain ⟨u', hu⟩ := law_tail g2 g6 u F x4
  refine ⟨w1, u', INV_v g5 g4, ?_⟩
  rw [g1, ob]
  exact hu
theorem law_p {C : gV → Option Int32} {R : gV → Option (Int32 × gV)} (hM : ∀ v w, INV v w → ∃ r, C v = some r ∧ R w = some (r, up w 81 8 0)) {v : gV} (h : INV v v) (u : Int64) (F : gV → Int64 → Int32 → Option Int32) (x4 : Int32) : ∃ w' u', INV w' w' ∧ ((C v).bind fun q_1 => (R v).bind fun q_2 => if q_1 = q_2.1 then (F q_2.2 u (x4 + 4)) else (some 0)) = F w' u' (x4 + 4) := by
  obtain ⟨r, g1, g2⟩ := hM v v h
  refine ⟨up v 81 8 0, u, INV_v (INV_81 h (by decide) (by decide) _) (RF_81 _ _ _), ?_⟩
  rw [g1, ob, g2, ob, if_pos rfl]
theorem law_s {C R : gV → Option (Int32 × gV)} (hM : ∀ v w, INV v w → ∃ r v' w', C v = some (r, v') ∧ R w = some (r, w') ∧ CF v v' ∧ RF w w' ∧ INV v' w') {v : gV} (h : INV v v) (u : Int64) (F : gV → Int64 → Int32 → Option Int32) (x4 : Int32) : ∃ w' u', INV w' w' ∧ ((C v).bind fun q_1 => (R q_1.2).bind fun q_2 => if q_1.1 = q_2.1 then (F q_2.2 u (x4 + 4)) else (some 0)) = F w' u' (x4 + 4) := by
  obtain ⟨r, v1, _, e1, _, f1, _⟩ := hM v v h
  obtain ⟨r2, v2, w1, g1, g2, g3, g4, g5⟩ := hM v v1 (INV_w h f1)
  rw [e1] at g1
  have e := Option.some.inj g1
  have er : r = r2 := congrArg Prod.fst e
  have ev : v1 = v2 := congrArg Prod.snd e
  subst er
  subst ev
  refine ⟨w1, u, INV_v g5 g4, ?_⟩
  rw [e1, ob]
  dsimp only
  rw [g2, ob, if_pos rfl]
section
variable {xs : Nat → Int32} {L : Nat} {F : gV → Int64 → Int32 → Option Int32} {v : gV} {u : Int64} {x4 : Int32}

theorem lc_2 (h : INV v v) : ∃ w' u', INV w' w' ∧ sL_law_c2 1000 xs L F v u x4 = F w' u' (x4 + 4) := law_p (C := sX5_objects) (R := sX6_objects) (fun _ _ h => t_objects h) h u F x4
theorem lc_8 (h : INV v v) : ∃ w' u', INV w' w' ∧ sL_law_c8 1000 xs L F v u x4 = F w' u' (x4 + 4) := law_p (C := sX5_room) (R := sX6_room) (fun _ _ h => t_room h) h u F x4
theorem lc_12 (h : INV v v) : ∃ w' u', INV w' w' ∧ sL_law_c12 1000 xs L F v u x4 = F w' u' (x4 + 4) := law_p (C := sX5_candidates) (R := sX6_candidates) (fun _ _ h => t_candidates h) h u F x4
theorem lc_13 (h : INV v v) : ∃ w' u', INV w' w' ∧ sL_law_c13 1000 xs L F v u x4 = F w' u' (x4 + 4) := law_p (C := sX5_it) (R := sX6_it) (fun _ _ h => t_it h) h u F x4
theorem lc_14 (h : INV v v) : ∃ w' u', INV w' w' ∧ sL_law_c14 1000 xs L F v u x4 = F w' u' (x4 + 4) := law_p (C := sX5_them) (R := sX6_them) (fun _ _ h => t_them h) h u F x4
theorem lc_21 (h : INV v v) : ∃ w' u', INV w' w' ∧ sL_law_c21 1000 xs L F v u x4 = F w' u' (x4 + 4) := law_p (C := sX5_executed) (R := sX6_executed) (fun _ _ h => t_executed h) h u F x4
theorem lc_22 (h : INV v v) : ∃ w' u', INV w' w' ∧ sL_law_c22 1000 xs L F v u x4 = F w' u' (x4 + 4) := law_p (C := sX5_failed) (R := sX6_failed) (fun _ _ h => t_failed h) h u F x4
theorem lc_23 (h : INV v v) : ∃ w' u', INV w' w' ∧ sL_law_c23 1000 xs L F v u x4 = F w' u' (x4 + 4) := law_p (C := sX5_asked) (R := sX6_asked) (fun _ _ h => t_asked h) h u F x4
theorem lc_25 (h : INV v v) : ∃ w' u', INV w' w' ∧ sL_law_c25 1000 xs L F v u x4 = F w' u' (x4 + 4) := law_p (C := sX5_savedStates) (R := sX6_savedStates) (fun _ _ h => t_saved h) h u F x4
theorem lc_9 (h : INV v v) : ∃ w' u', INV w' w' ∧ sL_law_c9 1000 xs L F v u x4 = F w' u' (x4 + 4) := law_p (C := sX5_visible 1000) (R := sX6_visible 1000) (fun _ _ h => t_visible h) h u F x4
theorem lc_17 (h : INV v v) : ∃ w' u', INV w' w' ∧ sL_law_c17 1000 xs L F v u x4 = F w' u' (x4 + 4) := law_s (C := sX5_clearBuffer) (R := sX6_clearBuffer) (fun _ _ h => t_clear h) h u F x4
theorem lc_18 (h : INV v v) : ∃ w' u', INV w' w' ∧ sL_law_c18 1000 xs L F v u x4 = F w' u' (x4 + 4) := law_s (C := sX5_firstError 1000) (R := sX6_firstError 1000) (fun _ _ h => t_firstError h) h u F x4
theorem lc_26 (h : INV v v) : ∃ w' u', INV w' w' ∧ sL_law_c26 1000 xs L F v u x4 = F w' u' (x4 + 4) := by
  obtain ⟨r, g1, g2⟩ := t_digest h
  refine ⟨up v 81 8 0, u, INV_v (INV_81 h (by decide) (by decide) _) (RF_81 _ _ _), ?_⟩
  unfold sL_law_c26
  rw [g1, ob, g2, ob]
  dsimp only
  rw [cmp_self, if_pos rfl]
theorem lc_19 (h : INV v v) : ∃ w' u', INV w' w' ∧ sL_law_c19 1000 xs L F v u x4 = F w' u' (x4 + 4) := law_ms (a := 0) (b := 0) (C := sX5_enter 1000) (R := sX6_enter 1000) (fun _ _ h => t_enter h) h u F x4
theorem lc_20 (h : INV v v) : ∃ w' u', INV w' w' ∧ sL_law_c20 1000 xs L F v u x4 = F w' u' (x4 + 4) := law_ms (a := 0) (b := 0) (C := sX5_ifEntered 1000) (R := sX6_ifEntered 1000) (fun _ _ h => t_ifEntered h) h u F x4
theorem lc_24 (h : INV v v) : ∃ w' u', INV w' w' ∧ sL_law_c24 1000 xs L F v u x4 = F w' u' (x4 + 4) := law_ms (a := 1) (b := 1) (C := sX5_undo 1000) (R := sX6_undo 1000) (fun _ _ h => t_undo h) h u F x4
theorem lc_3 (h : INV v v) (h1 : ¬ ((x4 + 1) < 0 ∨ L ≤ (x4 + 1).toNatClampNeg)) : ∃ w' u', INV w' w' ∧ sL_law_c3 1000 xs L F v u x4 = F w' u' (x4 + 4) := by
  unfold sL_law_c3
  simp only [if_pos h1]
  exact law_tp (a := 2) (b := 2) (C := fun v => sX5_noun v (xs (x4 + 1).toNatClampNeg)) (R := fun w => sX6_noun w (xs (x4 + 1).toNatClampNeg)) (fun _ _ h => t_noun h _) h u F x4
theorem lc_4 (h : INV v v) (h1 : ¬ ((x4 + 1) < 0 ∨ L ≤ (x4 + 1).toNatClampNeg)) : ∃ w' u', INV w' w' ∧ sL_law_c4 1000 xs L F v u x4 = F w' u' (x4 + 4) := by
  unfold sL_law_c4
  simp only [if_pos h1]
  exact law_tp (a := 2) (b := 2) (C := fun v => sX5_adjective v (xs (x4 + 1).toNatClampNeg)) (R := fun w => sX6_adjective w (xs (x4 + 1).toNatClampNeg)) (fun _ _ h => t_adjective h _) h u F x4
theorem lc_5 (h : INV v v) (h1 : ¬ ((x4 + 1) < 0 ∨ L ≤ (x4 + 1).toNatClampNeg)) : ∃ w' u', INV w' w' ∧ sL_law_c5 1000 xs L F v u x4 = F w' u' (x4 + 4) := by
  unfold sL_law_c5
  simp only [if_pos h1]
  exact law_tp (a := 2) (b := 2) (C := fun v => sX5_place v (xs (x4 + 1).toNatClampNeg)) (R := fun w => sX6_place w (xs (x4 + 1).toNatClampNeg)) (fun _ _ h => t_place h _) h u F x4
theorem lc_7 (h : INV v v) (h1 : ¬ ((x4 + 1) < 0 ∨ L ≤ (x4 + 1).toNatClampNeg)) : ∃ w' u', INV w' w' ∧ sL_law_c7 1000 xs L F v u x4 = F w' u' (x4 + 4) := by
  unfold sL_law_c7
  simp only [if_pos h1]
  exact law_tp (a := 2) (b := 2) (C := fun v => sX5_objectsAt 1000 v (xs (x4 + 1).toNatClampNeg)) (R := fun w => sX6_objectsAt 1000 w (xs (x4 + 1).toNatClampNeg)) (fun _ _ h => t_objectsAt h _) h u F x4
theorem lc_10 (h : INV v v) (h1 : ¬ ((x4 + 1) < 0 ∨ L ≤ (x4 + 1).toNatClampNeg)) : ∃ w' u', INV w' w' ∧ sL_law_c10 1000 xs L F v u x4 = F w' u' (x4 + 4) := by
  unfold sL_law_c10
  simp only [if_pos h1]
  exact law_tp (a := 2) (b := 2) (C := fun v => sX5_suitable 1000 v (xs (x4 + 1).toNatClampNeg)) (R := fun w => sX6_suitable 1000 w (xs (x4 + 1).toNatClampNeg)) (fun _ _ h => t_suitable h _) h u F x4
theorem lc_11 (h : INV v v) (h1 : ¬ ((x4 + 1) < 0 ∨ L ≤ (x4 + 1).toNatClampNeg)) (h2 : ¬ ((x4 + 2) < 0 ∨ L ≤ (x4 + 2).toNatClampNeg)) : ∃ w' u', INV w' w' ∧ sL_law_c11 1000 xs L F v u x4 = F w' u' (x4 + 4) := by
  unfold sL_law_c11
  simp only [if_pos h1, if_pos h2]
  exact law_tp (a := 2) (b := 2) (C := fun v => sX5_fitting 1000 v (xs (x4 + 1).toNatClampNeg) (xs (x4 + 2).toNatClampNeg)) (R := fun w => sX6_fitting 1000 w (xs (x4 + 1).toNatClampNeg) (xs (x4 + 2).toNatClampNeg)) (fun _ _ h => t_fitting h _ _) h u F x4
theorem lc_1 (h : INV v v) (h1 : ¬ ((x4 + 1) < 0 ∨ L ≤ (x4 + 1).toNatClampNeg)) : ∃ w' u', INV w' w' ∧ sL_law_c1 1000 xs L F v u x4 = F w' u' (x4 + 4) := by
  unfold sL_law_c1
  simp only [if_pos h1]
  exact law_ms (a := 2) (b := 2) (C := fun v => sX5_moveTo 1000 v (xs (x4 + 1).toNatClampNeg)) (R := fun w => sX6_moveTo 1000 w (xs (x4 + 1).toNatClampNeg)) (fun _ _ h => t_moveTo h _) h u F x4
theorem lc_15 (h : INV v v) (h1 : ¬ ((x4 + 1) < 0 ∨ L ≤ (x4 + 1).toNatClampNeg)) : ∃ w' u', INV w' w' ∧ sL_law_c15 1000 xs L F v u x4 = F w' u' (x4 + 4) := by
  unfold sL_law_c15
  simp only [if_pos h1]
  exact law_ms (a := 0) (b := 1) (C := fun v => sX5_append v (xs (x4 + 1).toNatClampNeg)) (R := fun w => sX6_append w (xs (x4 + 1).toNatClampNeg)) (fun _ _ h => t_append h _) h u F x4
theorem lc_16 (h : INV v v) (h1 : ¬ ((x4 + 1) < 0 ∨ L ≤ (x4 + 1).toNatClampNeg)) : ∃ w' u', INV w' w' ∧ sL_law_c16 1000 xs L F v u x4 = F w' u' (x4 + 4) := by
  unfold sL_law_c16
  simp only [if_pos h1]
  exact law_ms (a := 2) (b := 1) (C := fun v => sX5_appendWord 1000 v (xs (x4 + 1).toNatClampNeg)) (R := fun w => sX6_appendWord 1000 w (xs (x4 + 1).toNatClampNeg)) (fun _ _ h => t_appendWord h _) h u F x4
theorem lc_0 (h : INV v v) (h1 : ¬ ((x4 + 1) < 0 ∨ L ≤ (x4 + 1).toNatClampNeg)) (h2 : ¬ ((x4 + 2) < 0 ∨ L ≤ (x4 + 2).toNatClampNeg)) (h3 : ¬ ((x4 + 3) < 0 ∨ L ≤ (x4 + 3).toNatClampNeg)) : ∃ w' u', INV w' w' ∧ sL_law_c0 1000 xs L F v u x4 = F w' u' (x4 + 4) := by
  unfold sL_law_c0
  simp only [if_pos h1, if_pos h2, if_pos h3]
  exact law_ms (a := 0) (b := 1) (C := fun v => sX5_addObject 1000 v (xs (x4 + 1).toNatClampNeg) (xs (x4 + 2).toNatClampNeg) (xs (x4 + 3).toNatClampNeg)) (R := fun w => sX6_addObject 1000 w (xs (x4 + 1).toNatClampNeg) (xs (x4 + 2).toNatClampNeg) (xs (x4 + 3).toNatClampNeg)) (fun _ _ h => t_addObject h _ _ _) h u F x4
theorem lc_6 (h : INV v v) (h1 : ¬ ((x4 + 1) < 0 ∨ L ≤ (x4 + 1).toNatClampNeg)) : ∃ w' u', INV w' w' ∧ sL_law_c6 1000 xs L F v u x4 = F w' u' (x4 + 4) := by
  obtain ⟨o, r, w1, g1, g2, g4, g5, g6⟩ := t_isOpen h (xs (x4 + 1).toNatClampNeg)
  have ht : sX6_thrown w1 = some (w1 81 8) := rfl
  unfold sL_law_c6 sL_isOpen
  simp only [if_pos h1]
  rw [g1, ob]
  rcases g6 with ⟨e, h8⟩ | ⟨hab, _⟩ | ⟨y, e, e2, h8⟩
  · refine ⟨w1, u, INV_v g5 g4, ?_⟩
    rw [e, show gOutZ (.inl 2) 2 2 v u = some (1, v, u) from rfl, ob]
    dsimp only
    rw [g2, ob]
    dsimp only
    rw [ht, ob, h8, if_pos rfl, if_neg one_ne]
  · exact absurd rfl hab
  · refine ⟨w1, if y = 0 then 0 else 1, INV_v g5 g4, ?_⟩
    rw [e, show gOutZ (.inr y) 2 2 v u = some (0, v, if y = 0 then 0 else 1) from rfl, ob]
    dsimp only
    rw [g2, ob]
    dsimp only
    rw [ht, ob, h8, if_pos rfl, if_pos rfl, e2]
    by_cases z : y = 0
    · rw [if_pos z, if_pos z, cmp_self, if_pos rfl]
    · rw [if_neg z, if_neg z, cmp_self, if_pos rfl]
end
theorem hmainL {xs : Nat → Int32} {L : Nat} (hL : L ≤ 2048) : ∀ k i v u, INV v v → 0 < k → L < 4 * i + 4 * k → 4 * i ≤ 2048 → sL_law_23 1000 xs L k v u (nI (4 * i)) = some 1 := by
  intro k
  induction k with
  | zero => intro i v u h h0; omega
  | succ k ih =>
    intro i v u h h0 hk hi
    rw [sL_law_23]
    by_cases z : L < 4 * i + 4
    · have hlt : nI L - 4 < nI (4 * i) := by
        by_cases y : L < 4
        · exact Int32.lt_of_lt_of_le (pk_sneg (a := L) (b := 4) (by decide) y) (nI_pos' (by omega))
        · rw [show nI L - 4 = nI (L - 4) from pk_sub (b := 4) (by omega)]
          exact nI_lt (by omega) (by omega)
      rw [if_pos hlt]
    · rw [show nI L - 4 = nI (L - 4) from pk_sub (b := 4) (by omega), if_neg (nI_nlt (by omega) (by omega)), if_pos (nI_in (by omega) (by omega))]
      have h1 : ¬ ((nI (4 * i) + 1) < 0 ∨ L ≤ (nI (4 * i) + 1).toNatClampNeg) := by rw [nI_1]; exact nI_in (by omega) (by omega)
      have h2 : ¬ ((nI (4 * i) + 2) < 0 ∨ L ≤ (nI (4 * i) + 2).toNatClampNeg) := by rw [show nI (4 * i) + 2 = nI (4 * i + 2) from nI_add _ 2]; exact nI_in (by omega) (by omega)
      have h3 : ¬ ((nI (4 * i) + 3) < 0 ∨ L ≤ (nI (4 * i) + 3).toNatClampNeg) := by rw [show nI (4 * i) + 3 = nI (4 * i + 3) from nI_add _ 3]; exact nI_in (by omega) (by omega)
      have nxt : ∀ w' u', INV w' w' → sL_law_23 1000 xs L k w' u' (nI (4 * i) + 4) = some 1 := by
        intro w' u' hw
        rw [show nI (4 * i) + 4 = nI (4 * (i + 1)) from (nI_add _ 4).trans (congrArg nI (by omega))]
        exact ih (i + 1) w' u' hw (by omega) (by omega) (by omega)
      have fin : ∀ A : Option Int32, (∃ w' u', INV w' w' ∧ A = sL_law_23 1000 xs L k w' u' (nI (4 * i) + 4)) → A = some 1 := by
        intro A hA
        obtain ⟨w', u', hw, e⟩ := hA
        rw [e]
        exact nxt w' u' hw
      generalize (xs (nI (4 * i)).toNatClampNeg) &&& 31 = code
      by_cases c0 : code = 0
      · rw [if_pos c0]; exact fin _ (lc_0 h h1 h2 h3)
      rw [if_neg c0]
      by_cases c1 : code = 1
      · rw [if_pos c1]; exact fin _ (lc_1 h h1)
      rw [if_neg c1]
      by_cases c2 : code = 2
      · rw [if_pos c2]; exact fin _ (lc_2 h)
      rw [if_neg c2]
      by_cases c3 : code = 3
      · rw [if_pos c3]; exact fin _ (lc_3 h h1)
      rw [if_neg c3]
      by_cases c4 : code = 4
      · rw [if_pos c4]; exact fin _ (lc_4 h h1)
      rw [if_neg c4]
      by_cases c5 : code = 5
      · rw [if_pos c5]; exact fin _ (lc_5 h h1)
      rw [if_neg c5]
      by_cases c6 : code = 6
      · rw [if_pos c6]; exact fin _ (lc_6 h h1)
      rw [if_neg c6]
      by_cases c7 : code = 7
      · rw [if_pos c7]; exact fin _ (lc_7 h h1)
      rw [if_neg c7]
      by_cases c8 : code = 8
      · rw [if_pos c8]; exact fin _ (lc_8 h)
      rw [if_neg c8]
      by_cases c9 : code = 9
      · rw [if_pos c9]; exact fin _ (lc_9 h)
      rw [if_neg c9]
      by_cases c10 : code = 10
      · rw [if_pos c10]; exact fin _ (lc_10 h h1)
      rw [if_neg c10]
      by_cases c11 : code = 11
      · rw [if_pos c11]; exact fin _ (lc_11 h h1 h2)
      rw [if_neg c11]
      by_cases c12 : code = 12
      · rw [if_pos c12]; exact fin _ (lc_12 h)
      rw [if_neg c12]
      by_cases c13 : code = 13
      · rw [if_pos c13]; exact fin _ (lc_13 h)
      rw [if_neg c13]
      by_cases c14 : code = 14
      · rw [if_pos c14]; exact fin _ (lc_14 h)
      rw [if_neg c14]
      by_cases c15 : code = 15
      · rw [if_pos c15]; exact fin _ (lc_15 h h1)
      rw [if_neg c15]
      by_cases c16 : code = 16
      · rw [if_pos c16]; exact fin _ (lc_16 h h1)
      rw [if_neg c16]
      by_cases c17 : code = 17
      · rw [if_pos c17]; exact fin _ (lc_17 h)
      rw [if_neg c17]
      by_cases c18 : code = 18
      · rw [if_pos c18]; exact fin _ (lc_18 h)
      rw [if_neg c18]
      by_cases c19 : code = 19
      · rw [if_pos c19]; exact fin _ (lc_19 h)
      rw [if_neg c19]
      by_cases c20 : code = 20
      · rw [if_pos c20]; exact fin _ (lc_20 h)
      rw [if_neg c20]
      by_cases c21 : code = 21
      · rw [if_pos c21]; exact fin _ (lc_21 h)
      rw [if_neg c21]
      by_cases c22 : code = 22
      · rw [if_pos c22]; exact fin _ (lc_22 h)
      rw [if_neg c22]
      by_cases c23 : code = 23
      · rw [if_pos c23]; exact fin _ (lc_23 h)
      rw [if_neg c23]
      by_cases c24 : code = 24
      · rw [if_pos c24]; exact fin _ (lc_24 h)
      rw [if_neg c24]
      by_cases c25 : code = 25
      · rw [if_pos c25]; exact fin _ (lc_25 h)
      rw [if_neg c25]
      by_cases c26 : code = 26
      · rw [if_pos c26]; exact fin _ (lc_26 h)
      rw [if_neg c26]
      exact nxt v u h
theorem iv_k {k : Nat} (h1 : kd k ≠ 1) (h3 : kd k ≠ 3) : iv k = fun _ => 0 := by
  unfold iv
  rw [if_neg h1, if_neg h3]
theorem INV_init {v : gV} (h : Init v) : INV v v := by
  obtain ⟨h0, h81, h82, h83, h84, h85, h86, h87, h88⟩ := h
  have z : ∀ k, k < 81 → kd k ≠ 1 → kd k ≠ 3 → ∀ j, v k j = 0 := fun k q q1 q3 j => by rw [h0 k q, iv_k q1 q3]
  have e8 : ∀ j, v 8 j = rS 0 j := fun j => by rw [h0 8 (by decide)]; rfl
  have e13 : ∀ j, v 13 j = rC 0 j := fun j => by rw [h0 13 (by decide)]; rfl
  have s : ∀ j, j ≠ 50 → v 84 j = 0 := fun j q => by rw [h84, pk_un q]
  have s50 : v 84 50 = -1 := by rw [h84, pk_us]
  refine ⟨⟨0, by omega, z 1 (by decide) (by decide) (by decide) 1, by rw [h81]; rfl, fun i q => by omega⟩, ⟨h82, h83⟩, SR_idle (c := 0) ⟨by omega, s 0 (by decide), ⟨0, by decide, s 49 (by decide)⟩, fun k q => by omega, Or.inl s50, fun p _ _ => by simp [cn]⟩ ⟨z 9 (by decide) (by decide) (by decide) 3, (z 9 (by decide) (by decide) (by decide) 4).trans (s 49 (by decide)).symm, z 9 (by decide) (by decide) (by decide) 5, fun k q => by omega⟩ ?_ ?_ ?_ ?_ ?_ ?_ ?_ (s 55 (by decide)) ?_ (s 57 (by decide)), 0, 0, by decide, by decide, z 0 (by decide) (by decide) (by decide) 5, z 0 (by decide) (by decide) (by decide) 6, by rw [h81]; rfl, fun t q => by omega⟩
  · rw [e8, s50]; rfl
  · rw [e8, s 51 (by decide)]; rfl
  · rw [e8, s 52 (by decide)]; rfl
  · rw [e8, s 53 (by decide)]; rfl
  · rw [e8, s 54 (by decide)]; rfl
  · rw [e8, s 57 (by decide)]; rfl
  · left; rw [e13]; rfl
  · rw [e8]; rfl
theorem hmain (xs : Nat → Int32) (L : Nat) (v : gV) (hL : L ≤ 2048) (h : Init v) : sL_law_23 1000 xs L 1000 v 0 0 = some 1 := hmainL hL 1000 0 v 0 (INV_init h) (by decide) (by omega) (by decide)

