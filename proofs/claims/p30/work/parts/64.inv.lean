/-! the invariant; the methods that only tell, both sides -/
def INV (v w : gV) : Prop := (∃ l, BR v w l) ∧ TB w ∧ SR v 8 (w 84) ∧ RG v w
def CF (v v' : gV) : Prop := ∀ k, 81 ≤ k → v' k = v k
def RF (w w' : gV) : Prop := ∀ k, k < 81 → w' k = w k
def MT (a b : Nat) (o : Nat ⊕ Int32) (r : Int32) (w' : gV) : Prop := (o = .inl a ∧ w' 81 8 = 1) ∨ (a ≠ b ∧ o = .inl b ∧ w' 81 8 = 2) ∨ ∃ y, o = .inr y ∧ r = y ∧ w' 81 8 = 0
theorem INV_cong2 {v v' w w' : gV} (h : INV v w) (h1 : ∀ k, k < 3 ∨ (7 < k ∧ k < 17) ∨ (26 < k ∧ k < 81) → v' k = v k) (h2 : ∀ k, k = 82 ∨ k = 83 ∨ k = 86 ∨ k = 87 → w' k = w k) (h84 : ∀ j, j < 122 → w' 84 j = w 84 j) (h5 : w' 81 5 = w 81 5) (h7 : w' 81 7 = w 81 7) : INV v' w' := by
  obtain ⟨⟨l, hB⟩, ht, hS, n, x, hn, hx, r5, r6, r7, hr⟩ := h
  refine ⟨⟨l, ?_⟩, ?_, ?_, n, x, hn, hx, ?_, ?_, ?_, fun t q => ?_⟩
  · unfold BR
    rw [h1 1 (by decide), h1 2 (by decide), h7, h2 87 (by decide)]
    exact hB
  · unfold TB
    rw [h2 82 (by decide), h2 83 (by decide)]
    exact ht
  · exact SR_congr hS (fun k q1 q2 => h1 k (by omega)) h84
  · rw [h1 0 (by decide)]; exact r5
  · rw [h1 0 (by decide)]; exact r6
  · rw [h5]; exact r7
  · refine SR_congr (hr t q) (fun k q1 q2 => h1 k (by omega)) (fun j _ => ?_)
    show w' 86 _ = w 86 _
    rw [h2 86 (by decide)]
theorem INV_congr {v v' w w' : gV} (h : INV v w) (h1 : ∀ k, k < 3 ∨ (7 < k ∧ k < 17) ∨ (26 < k ∧ k < 81) → v' k = v k) (h2 : ∀ k, k = 82 ∨ k = 83 ∨ k = 84 ∨ k = 86 ∨ k = 87 → w' k = w k) (h5 : w' 81 5 = w 81 5) (h7 : w' 81 7 = w 81 7) : INV v' w' :=
  INV_cong2 h h1 (fun k q => h2 k (by omega)) (fun j _ => by rw [h2 84 (by decide)]) h5 h7
theorem INV_81 {v w : gV} (h : INV v w) {j : Nat} (h5 : j ≠ 5) (h7 : j ≠ 7) (x : Int32) : INV v (up w 81 j x) := INV_congr h (fun _ _ => rfl) (fun k q => up_r _ _ _ _ (by omega)) (up_c _ _ _ _ (fun e => h5 e.symm)) (up_c _ _ _ _ (fun e => h7 e.symm))
theorem INV_b {v w : gV} (h : INV v w) : ∃ c, OKs (w 84) c ∧ CW v 9 (w 84) c ∧ v 8 2 = w 84 50 ∧ v 8 3 = w 84 51 ∧ v 8 4 = w 84 52 ∧ v 8 5 = w 84 53 ∧ v 8 6 = w 84 54 ∧ v 8 7 = w 84 57 ∧ (v 13 5 = 0 ∨ v 13 5 = 1) := by
  obtain ⟨_, _, ⟨c, hc, _⟩, _⟩ := h
  exact ⟨c, hc⟩
theorem RF_81 (w : gV) (j : Nat) (x : Int32) : RF w (up w 81 j x) := fun k q => up_r _ _ _ _ (by omega)
theorem RF_trans {a b c : gV} (h1 : RF a b) (h2 : RF b c) : RF a c := fun k q => (h2 k q).trans (h1 k q)
theorem CF_refl (v : gV) : CF v v := fun _ _ => rfl
theorem CF_trans {a b c : gV} (h1 : CF a b) (h2 : CF b c) : CF a c := fun k q => (h2 k q).trans (h1 k q)
theorem T_1 {v w : gV} (r : Int32) (h : INV v w) : RF w (up (up w 81 8 0) 81 8 1) ∧ INV v (up (up w 81 8 0) 81 8 1) ∧ MT 2 2 (.inl 2) r (up (up w 81 8 0) 81 8 1) := ⟨RF_trans (RF_81 _ _ _) (RF_81 _ _ _), INV_81 (INV_81 h (by decide) (by decide) _) (by decide) (by decide) _, Or.inl ⟨rfl, up_s _ _ _ _⟩⟩
theorem T_0 {v w : gV} (y : Int32) (h : INV v w) : RF w (up w 81 8 0) ∧ INV v (up w 81 8 0) ∧ MT 2 2 (.inr y) y (up w 81 8 0) := ⟨RF_81 _ _ _, INV_81 h (by decide) (by decide) _, Or.inr (Or.inr ⟨y, rfl, rfl, up_s _ _ _ _⟩)⟩
theorem m_thr (w : gV) (x : Int32) : sX6_throwing w x = some (0, up w 81 8 x) := rfl
theorem pred_lt {c : Nat} (hc : c ≤ 12) {x : Int32} (h0 : ¬ x < 0) (h : nI c ≤ x) : nI c - 1 < x := by
  obtain ⟨j, hj, e⟩ := nI_of h0
  subst e
  have hcj : c ≤ j := (nI_leI (by omega) hj).mp h
  by_cases z : c = 0
  · subst z
    rw [show nI 0 - 1 = -1 by decide, Int32.lt_iff_toInt_lt, nI_toInt hj]
    have : (-1 : Int32).toInt = -1 := by decide
    omega
  · rw [show nI c - 1 = nI (c - 1) from pk_sub (b := 1) (by omega)]
    exact nI_lt (by omega) hj
theorem e_obj {v w : gV} {c : Nat} (h : CW v 9 (w 84) c) (ho : OKs (w 84) c) (x : Int32) : (sX4_exists v 9 x = some 0 ∧ sX6_isObject w x = some 0) ∨ ∃ k, k < c ∧ x = nI k ∧ sX4_exists v 9 x = some 1 ∧ sX6_isObject w x = some 1 := by
  have hc := ho.1
  unfold sX6_isObject sX6_in sX4_exists
  rw [h.1, ho.2.1]
  rcases pk_ix x (n := c) (by omega) with q | q | ⟨k, hk, e⟩
  · left
    rw [if_pos q, if_pos q, ob, if_pos (by decide)]
    exact ⟨rfl, rfl⟩
  · left
    by_cases z : x < 0
    · rw [if_pos z, if_pos z, ob, if_pos (by decide)]
      exact ⟨rfl, rfl⟩
    · rw [if_neg z, if_pos q, if_neg z, if_pos (pred_lt hc z q), ob, if_pos (by decide)]
      exact ⟨rfl, rfl⟩
  · right
    have hn : ¬ nI c - 1 < nI k := by
      rw [show nI c - 1 = nI (c - 1) from pk_sub (b := 1) (by omega)]
      exact nI_nlt (by omega) (by omega)
    refine ⟨k, hk, e, ?_, ?_⟩
    · rw [e, if_neg (nI_pos (by omega)), if_neg (nI_ge hk (by omega)), if_neg (ge_12 (by omega))]
    · rw [e, if_neg (nI_pos (by omega)), if_neg hn, ob, if_pos (by decide)]
theorem m_told {v w : gV} {c : Nat} (h : CW v 9 (w 84) c) (ho : OKs (w 84) c) (x : Int32) {j : Nat} (hj : j < 4) : (sX4_exists v 9 x = some 0 ∧ sX6_told w x (nI j) = some (0, up (up w 81 8 0) 81 8 1)) ∨ ∃ k, k < c ∧ x = nI k ∧ sX4_exists v 9 x = some 1 ∧ sX6_told w x (nI j) = some (w 84 (4 * k + 1 + j), up w 81 8 0) := by
  have e84 : up w 81 8 0 84 = w 84 := u84 _ _ _
  have hc := ho.1
  unfold sX6_told
  rw [ob]
  rcases e_obj (v := v) (w := up w 81 8 0) (c := c) (by rw [e84]; exact h) (by rw [e84]; exact ho) x with ⟨q1, q2⟩ | ⟨k, hk, e, q1, q2⟩
  · left
    refine ⟨q1, ?_⟩
    rw [q2, ob, if_pos rfl, m_thr, ob]
  · right
    refine ⟨k, hk, e, q1, ?_⟩
    rw [q2, ob, if_neg one_ne, e, of_j rfl (by omega) hj, ob, e84]
section
variable {v w : gV}
theorem t_objects (h : INV v w) : ∃ r, sX5_objects v = some r ∧ sX6_objects w = some (r, up w 81 8 0) := by
  obtain ⟨c, y1, y2, y3, y4, y5, y6, y7, y8, y9⟩ := INV_b h
  refine ⟨_, rfl, ?_⟩
  show some (up w 81 8 0 84 0, up w 81 8 0) = some (v 9 3, up w 81 8 0)
  rw [u84, y1.2.1, y2.1]
theorem t_room (h : INV v w) : ∃ r, sX5_room v = some r ∧ sX6_room w = some (r, up w 81 8 0) := by
  obtain ⟨c, y1, y2, y3, y4, y5, y6, y7, y8, y9⟩ := INV_b h
  refine ⟨_, rfl, ?_⟩
  show some (up w 81 8 0 84 49, up w 81 8 0) = some (v 9 4, up w 81 8 0)
  rw [u84, y2.2.1]
theorem t_candidates (h : INV v w) : ∃ r, sX5_candidates v = some r ∧ sX6_candidates w = some (r, up w 81 8 0) := by
  obtain ⟨c, y1, y2, y3, y4, y5, y6, y7, y8, y9⟩ := INV_b h
  refine ⟨_, rfl, ?_⟩
  show some (up w 81 8 0 84 57, up w 81 8 0) = some (v 8 7, up w 81 8 0)
  rw [u84, y8]
theorem t_it (h : INV v w) : ∃ r, sX5_it v = some r ∧ sX6_it w = some (r, up w 81 8 0) := by
  obtain ⟨c, y1, y2, y3, y4, y5, y6, y7, y8, y9⟩ := INV_b h
  refine ⟨_, rfl, ?_⟩
  show some (up w 81 8 0 84 50, up w 81 8 0) = some (v 8 2, up w 81 8 0)
  rw [u84, y3]
theorem t_them (h : INV v w) : ∃ r, sX5_them v = some r ∧ sX6_them w = some (r, up w 81 8 0) := by
  obtain ⟨c, y1, y2, y3, y4, y5, y6, y7, y8, y9⟩ := INV_b h
  refine ⟨_, rfl, ?_⟩
  show some (up w 81 8 0 84 51, up w 81 8 0) = some (v 8 3, up w 81 8 0)
  rw [u84, y4]
theorem t_executed (h : INV v w) : ∃ r, sX5_executed v = some r ∧ sX6_executed w = some (r, up w 81 8 0) := by
  obtain ⟨c, y1, y2, y3, y4, y5, y6, y7, y8, y9⟩ := INV_b h
  refine ⟨_, rfl, ?_⟩
  show some (up w 81 8 0 84 52, up w 81 8 0) = some (v 8 4, up w 81 8 0)
  rw [u84, y5]
theorem t_failed (h : INV v w) : ∃ r, sX5_failed v = some r ∧ sX6_failed w = some (r, up w 81 8 0) := by
  obtain ⟨c, y1, y2, y3, y4, y5, y6, y7, y8, y9⟩ := INV_b h
  refine ⟨_, rfl, ?_⟩
  show some (up w 81 8 0 84 53, up w 81 8 0) = some (v 8 5, up w 81 8 0)
  rw [u84, y6]
theorem t_asked (h : INV v w) : ∃ r, sX5_asked v = some r ∧ sX6_asked w = some (r, up w 81 8 0) := by
  obtain ⟨c, y1, y2, y3, y4, y5, y6, y7, y8, y9⟩ := INV_b h
  refine ⟨_, rfl, ?_⟩
  show some (up w 81 8 0 84 54, up w 81 8 0) = some (v 8 6, up w 81 8 0)
  rw [u84, y7]
theorem t_saved (h : INV v w) : ∃ r, sX5_savedStates v = some r ∧ sX6_savedStates w = some (r, up w 81 8 0) := by
  obtain ⟨_, _, _, n, x, hn, hx, r5, r6, r7, hr⟩ := h
  refine ⟨_, rfl, ?_⟩
  show some (up w 81 8 0 81 5, up w 81 8 0) = some (v 0 5, up w 81 8 0)
  rw [up_c _ _ _ _ (by decide), r5, r7]
theorem t_visible (h : INV v w) : ∃ r, sX5_visible 1000 v = some r ∧ sX6_visible 1000 w = some (r, up w 81 8 0) := by
  obtain ⟨c, y1, y2, y3, y4, y5, y6, y7, y8, y9⟩ := INV_b h
  have e84 : up w 81 8 0 84 = w 84 := u84 _ _ _
  unfold sX5_visible sX6_visible
  rw [k_vis y2 y1, ob, ob, m_visOnes (v := up w 81 8 0) (by rw [e84]; exact y1), ob, e84]
  exact ⟨_, rfl, rfl⟩
theorem t_noun (h : INV v w) (x : Int32) : ∃ o r w', tX5_noun v x = some o ∧ sX6_noun w x = some (r, w') ∧ RF w w' ∧ INV v w' ∧ MT 2 2 o r w' := by
  obtain ⟨c, y1, y2, _⟩ := INV_b h
  have hc := y1.1
  unfold tX5_noun sX6_noun
  rw [bind_eta]
  rcases m_told y2 y1 x (j := 0) (by decide) with ⟨q1, q2⟩ | ⟨k, hk, e, q1, q2⟩
  · rw [q1, ob, if_pos rfl, show (0 : Int32) = nI 0 from rfl, q2]
    exact ⟨_, _, _, rfl, rfl, T_1 _ h⟩
  · rw [q1, ob, if_neg one_ne, e, if_pos (in_12 (by omega)), cl_12 (by omega), (y2.2.2.2 k hk).1]
    rw [e] at q2
    rw [show sX6_told w (nI k) 0 = some (w 84 (4 * k + 1), up w 81 8 0) from q2]
    exact ⟨_, _, _, rfl, rfl, T_0 _ h⟩
theorem t_adjective (h : INV v w) (x : Int32) : ∃ o r w', tX5_adjective v x = some o ∧ sX6_adjective w x = some (r, w') ∧ RF w w' ∧ INV v w' ∧ MT 2 2 o r w' := by
  obtain ⟨c, y1, y2, _⟩ := INV_b h
  have hc := y1.1
  unfold tX5_adjective sX6_adjective
  rw [bind_eta]
  rcases m_told y2 y1 x (j := 1) (by decide) with ⟨q1, q2⟩ | ⟨k, hk, e, q1, q2⟩
  · rw [q1, ob, if_pos rfl, show (1 : Int32) = nI 1 from rfl, q2]
    exact ⟨_, _, _, rfl, rfl, T_1 _ h⟩
  · rw [q1, ob, if_neg one_ne, e, if_pos (in_12 (by omega)), cl_12 (by omega), (y2.2.2.2 k hk).2.1]
    rw [e] at q2
    rw [show sX6_told w (nI k) 1 = some (w 84 (4 * k + 2), up w 81 8 0) from q2]
    exact ⟨_, _, _, rfl, rfl, T_0 _ h⟩
theorem t_place (h : INV v w) (x : Int32) : ∃ o r w', tX5_place v x = some o ∧ sX6_place w x = some (r, w') ∧ RF w w' ∧ INV v w' ∧ MT 2 2 o r w' := by
  obtain ⟨c, y1, y2, _⟩ := INV_b h
  have hc := y1.1
  unfold tX5_place sX6_place
  rw [bind_eta]
  rcases m_told y2 y1 x (j := 2) (by decide) with ⟨q1, q2⟩ | ⟨k, hk, e, q1, q2⟩
  · rw [q1, ob, if_pos rfl, show (2 : Int32) = nI 2 from rfl, q2]
    exact ⟨_, _, _, rfl, rfl, T_1 _ h⟩
  · rw [q1, ob, if_neg one_ne, e, if_pos (in_12 (by omega)), cl_12 (by omega), (y2.2.2.2 k hk).2.2]
    rw [e] at q2
    rw [show sX6_told w (nI k) 2 = some (w 84 (4 * k + 3), up w 81 8 0) from q2]
    exact ⟨_, _, _, rfl, rfl, T_0 _ h⟩
theorem t_isOpen (h : INV v w) (x : Int32) : ∃ o r w', tX5_isOpen v x = some o ∧ sX6_isOpen w x = some (r, w') ∧ RF w w' ∧ INV v w' ∧ MT 2 2 o r w' := by
  obtain ⟨c, y1, y2, _⟩ := INV_b h
  have hc := y1.1
  unfold tX5_isOpen sX6_isOpen
  rcases m_told y2 y1 x (j := 3) (by decide) with ⟨q1, q2⟩ | ⟨k, hk, e, q1, q2⟩
  · rw [q1, ob, if_pos rfl, show (3 : Int32) = nI 3 from rfl, q2, ob]
    dsimp only
    rw [if_neg (by decide)]
    exact ⟨_, _, _, rfl, rfl, T_1 _ h⟩
  · rw [q1, ob, if_neg one_ne, e, y2.2.2.1]
    rw [e] at q2
    rw [show sX6_told w (nI k) 3 = some (w 84 (4 * k + 4), up w 81 8 0) from q2, ob]
    dsimp only
    rw [pw_e]
    by_cases z : w 84 (4 * k + 4) = 1
    · rw [if_pos z, if_neg (fun q => by have := (mk_tst (by omega) hk _).mp q; unfold opB at this; simp [z] at this)]
      exact ⟨_, _, _, rfl, rfl, T_0 _ h⟩
    · rw [if_neg z, if_pos ((mk_tst (by omega) hk _).mpr (by unfold opB; simp [z]))]
      exact ⟨_, _, _, rfl, rfl, T_0 _ h⟩
theorem in_no {x a b : Int32} (h : x < a ∨ b < x) : sX6_in x a b = some 0 := by
  unfold sX6_in
  rcases h with h | h
  · rw [if_pos h]
  · by_cases z : x < a
    · rw [if_pos z]
    · rw [if_neg z, if_pos h]
theorem in_yes {x a b : Int32} (h1 : ¬ x < a) (h2 : ¬ b < x) : sX6_in x a b = some 1 := by
  unfold sX6_in
  rw [if_neg h1, if_neg h2]
theorem lt_of_le {n : Nat} {x : Int32} (hn : n < 2 ^ 31 - 1) (h : nI (n + 1) ≤ x) : nI n < x := Int32.lt_of_lt_of_le (nI_lt (by omega) (by omega)) h
theorem nlt_of_le {a x : Int32} (h : a ≤ x) : ¬ x < a := Int32.not_lt.mpr h
theorem t_objectsAt (h : INV v w) (x : Int32) : ∃ o r w', tX5_objectsAt 1000 v x = some o ∧ sX6_objectsAt 1000 w x = some (r, w') ∧ RF w w' ∧ INV v w' ∧ MT 2 2 o r w' := by
  obtain ⟨c, y1, y2, _⟩ := INV_b h
  have hc := y1.1
  have e84 : up w 81 8 0 84 = w 84 := u84 _ _ _
  unfold tX5_objectsAt tX5_objectsAt_10 sX6_objectsAt
  rw [ob]
  rcases pk_ix x (n := 17) (by decide) with q | q | ⟨k, hk, e⟩
  · rw [if_pos q, in_no (Or.inl q), ob, if_pos rfl, m_thr, ob]
    exact ⟨_, _, _, rfl, rfl, T_1 _ h⟩
  · rw [if_neg (show ¬ x < 17 from nlt_of_le q), in_no (Or.inr (show (16 : Int32) < x from lt_of_le (n := 16) (by decide) q)), ob, if_pos rfl, m_thr, ob]
    have : (if x < 0 then some (Sum.inl 2) else some (Sum.inl 2)) = (some (Sum.inl 2) : Option (Nat ⊕ Int32)) := by split <;> rfl
    rw [this]
    exact ⟨_, _, _, rfl, rfl, T_1 _ h⟩
  · rw [e, if_neg (nI_pos (by omega)), if_pos (show nI k < 17 from nI_lt (b := 17) hk (by decide)), in_yes (nI_pos (by omega)) (show ¬ (16 : Int32) < nI k from nI_nlt (a := 16) (by omega) (by decide)), ob, if_neg one_ne, k_setAt y2 hc, ob, bitC hc, ob, m_at (v := up w 81 8 0) (by rw [e84]; exact y1), ob, e84]
    exact ⟨_, _, _, rfl, rfl, T_0 _ h⟩
theorem t_suitable (h : INV v w) (x : Int32) : ∃ o r w', tX5_suitable 1000 v x = some o ∧ sX6_suitable 1000 w x = some (r, w') ∧ RF w w' ∧ INV v w' ∧ MT 2 2 o r w' := by
  obtain ⟨c, y1, y2, _⟩ := INV_b h
  have hc := y1.1
  have e84 : up w 81 8 0 84 = w 84 := u84 _ _ _
  unfold tX5_suitable tX5_suitable_9 sX6_suitable
  rw [ob]
  rcases pk_ix x (n := 5) (by decide) with q | q | ⟨k, hk, e⟩
  · rw [if_pos q, in_no (Or.inl q), ob, if_pos rfl, m_thr, ob]
    exact ⟨_, _, _, rfl, rfl, T_1 _ h⟩
  · have h4 : (4 : Int32) < x := lt_of_le (n := 4) (by decide) q
    rw [if_neg (show ¬ x ≤ 4 from Int32.not_le.mpr h4), in_no (Or.inr h4), ob, if_pos rfl, m_thr, ob]
    have : (if x < 0 then some (Sum.inl 2) else some (Sum.inl 2)) = (some (Sum.inl 2) : Option (Nat ⊕ Int32)) := by split <;> rfl
    rw [this]
    exact ⟨_, _, _, rfl, rfl, T_1 _ h⟩
  · rw [e, if_neg (nI_pos (by omega)), if_pos (show nI k ≤ 4 from nI_le (b := 4) (by omega) (by decide)), in_yes (nI_pos (by omega)) (show ¬ (4 : Int32) < nI k from nI_nlt (a := 4) (by omega) (by decide)), ob, if_neg one_ne, k_suit y2 y1 hk, ob, m_suitOnes (v := up w 81 8 0) (by rw [e84]; exact y1) hk, ob, e84]
    exact ⟨_, _, _, rfl, rfl, T_0 _ h⟩
theorem t_fitting (h : INV v w) (x y : Int32) : ∃ o r w', tX5_fitting 1000 v x y = some o ∧ sX6_fitting 1000 w x y = some (r, w') ∧ RF w w' ∧ INV v w' ∧ MT 2 2 o r w' := by
  obtain ⟨c, y1, y2, _⟩ := INV_b h
  have hc := y1.1
  have e84 : up w 81 8 0 84 = w 84 := u84 _ _ _
  unfold tX5_fitting tX5_fitting_19 tX5_fitting_27 sX6_fitting sX6_fitting_32 sX5_isNoun sX5_isAdjective
  rw [ob]
  have fit : ∀ a b : Int32, a ≠ -1 → (b = -1 ∨ ¬ b < 0) → ∃ o r w', ((sX4_fittingSet 1000 v 9 a b).bind fun q_2 => some (Sum.inr q_2)) = (some o : Option (Nat ⊕ Int32)) ∧ ((sX6_fittingOnes 1000 (up w 81 8 0) a b).bind fun q_5 => some (q_5, up w 81 8 0)) = some (r, w') ∧ RF w w' ∧ INV v w' ∧ MT 2 2 o r w' := by
    intro a b ha hb
    rw [k_fit y2 hc, ob, m_fit (v := up w 81 8 0) (by rw [e84]; exact y1) ha hb, ob, e84]
    exact ⟨_, _, _, rfl, rfl, T_0 _ h⟩
  rcases pk_ix x (n := 6) (by decide) with q | q | ⟨k, hk, e⟩
  · rw [if_pos q, ob, if_pos rfl, in_no (Or.inl q), ob, if_pos rfl, m_thr, ob]
    exact ⟨_, _, _, rfl, rfl, T_1 _ h⟩
  · rw [in_no (Or.inr (show (5 : Int32) < x from lt_of_le (n := 5) (by decide) q)), ob, if_pos rfl, m_thr, ob]
    have : (if x < 0 then some (0 : Int32) else if 6 ≤ x then some 0 else some 1) = some 0 := by
      rw [if_pos (show (6 : Int32) ≤ x from q)]
      split <;> rfl
    rw [this, ob, if_pos rfl]
    exact ⟨_, _, _, rfl, rfl, T_1 _ h⟩
  · have hx : x ≠ -1 := by rw [e]; exact nI_m1 (by omega)
    have e1 : (if x < 0 then some (0 : Int32) else if 6 ≤ x then some 0 else some 1) = some 1 := by
      rw [e, if_neg (nI_pos (by omega)), if_neg (show ¬ (6 : Int32) ≤ nI k from nI_ge (b := 6) hk (by decide))]
    rw [e1, ob, if_neg one_ne, in_yes (by rw [e]; exact nI_pos (by omega)) (by rw [e]; exact nI_nlt (a := 5) (by omega) (by decide)), ob, if_neg one_ne]
    by_cases hy : y = -1
    · rw [if_pos hy, in_yes (by rw [hy]; decide) (by rw [hy]; decide), ob, if_neg one_ne]
      exact fit x y hx (Or.inl hy)
    · rw [if_neg hy]
      rcases pk_ix y (n := 4) (by decide) with q | q | ⟨j, hj, ej⟩
      · have hlt : y < -1 := by
          rw [Int32.lt_iff_toInt_lt] at q ⊢
          have e1 : (-1 : Int32).toInt = -1 := by decide
          have e0 : (0 : Int32).toInt = 0 := by decide
          have hne : y.toInt ≠ -1 := fun z => hy (Int32.toInt_inj.mp (z.trans e1.symm))
          omega
        rw [if_pos q, ob, if_pos rfl, in_no (Or.inl hlt), ob, if_pos rfl, m_thr, ob]
        exact ⟨_, _, _, rfl, rfl, T_1 _ h⟩
      · rw [in_no (Or.inr (show (3 : Int32) < y from lt_of_le (n := 3) (by decide) q)), ob, if_pos rfl, m_thr, ob]
        have : (if y < 0 then some (0 : Int32) else if 4 ≤ y then some 0 else some 1) = some 0 := by
          rw [if_pos (show (4 : Int32) ≤ y from q)]
          split <;> rfl
        rw [this, ob, if_pos rfl]
        exact ⟨_, _, _, rfl, rfl, T_1 _ h⟩
      · have e2 : (if y < 0 then some (0 : Int32) else if 4 ≤ y then some 0 else some 1) = some 1 := by
          rw [ej, if_neg (nI_pos (by omega)), if_neg (show ¬ (4 : Int32) ≤ nI j from nI_ge (b := 4) hj (by decide))]
        have hn : ¬ y < -1 := by
          rw [ej]
          exact (show ∀ j, j < 4 → ¬ nI j < -1 by decide +kernel) j hj
        rw [e2, ob, if_neg one_ne, in_yes hn (by rw [ej]; exact nI_nlt (a := 3) (by omega) (by decide)), ob, if_neg one_ne]
        exact fit x y hx (Or.inr (by rw [ej]; exact nI_pos (by omega)))
end
