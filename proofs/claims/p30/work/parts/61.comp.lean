/-! completion; the buffer read on both sides -/
theorem LI_P {v : gV} {W : Nat → Int32} {vb form L m : Nat} {P P' : Nat → Nat} (h : LI v W vb form L m P) (hP : ∀ j, 1 ≤ j → P' j = P j) : LI v W vb form L m P' := by
  obtain ⟨a1, a2, a3, a4, a5, a6, a7, a8, a9, a10, a11, a12⟩ := h
  refine ⟨a1, a2, a3, a4, a5, a6, a7, a8, a9, a10, fun j q1 q2 => ?_, fun q => ?_⟩
  · rw [hP j q1, hP (j + 1) (by omega)]; exact a11 j q1 q2
  · rw [hP 1 (Nat.le_refl _)]; exact a12 q
theorem PI_comp {v : gV} {W : Nat → Int32} {p i m f : Nat} (h : PI v W p i m f) (hW : eW W m) (hm : m ≤ 21) (hc : compB p i = true) : Fin v W m := by
  obtain ⟨g0, g1, g2, g3, g4, g5, g6, g7, g8, g9, g10, g11, g12, g13⟩ := PI_and h
  simp only [compB, Bool.or_eq_true, Bool.and_eq_true, Bool.not_eq_true', decide_eq_true_eq, decide_eq_false_iff_not] at hc
  have h2 : ∀ form, (form = 1 ∨ form = 2 ∨ form = 3) → i ≠ 3 → H2 v W i m f form → Fin v W m := by
    intro form hform hi hh
    obtain ⟨vb, P, a1, a2, a3, a4, a5, a6, a7, a8⟩ := hh
    have e2 : W 2 = -1 := hW 2 (by omega)
    left
    refine ⟨vb, 0, fun j => if j = 0 then 0 else P j, Cmd_of (LI_P a2 (P' := fun j => if j = 0 then 0 else P j) (fun j q => if_neg (by omega))) hm (Or.inl a4) (fun q => absurd q (by decide)) (fun _ => ⟨by omega, fun _ => by rw [e2]; exact ⟨by decide, by decide⟩⟩) (by simp) (fun q => absurd a1 (by omega)) (fun q => absurd a1 (by omega))⟩
  rcases hc with (e | e) | ⟨hi, (e | e) | e⟩
  · exact g13 e
  · obtain ⟨a1, a2, a3, a4, a0, b, a5, a6, a7, a8, a9⟩ := g12 e
    exact Or.inr ⟨a1, a0, b, -1, a5, a6, a7, a8, a4, by omega, Or.inl ⟨rfl, Or.inl (by omega)⟩⟩
  · exact h2 1 (Or.inl rfl) hi (g2 e)
  · rcases g3 e with y | y
    · exact h2 2 (Or.inr (Or.inl rfl)) hi y
    · exact h2 3 (Or.inr (Or.inr rfl)) hi y
  · obtain ⟨vb, form, L, P, a1, a2, a3, a4, a5, a6, a7, a8, a9, a10⟩ := g7 e
    have e2 : W (dE W (P L)) = -1 := hW _ (by omega)
    left
    refine ⟨vb, L, fun j => if j = 0 then 0 else P j, Cmd_of (LI_P a2 (P' := fun j => if j = 0 then 0 else P j) (fun j q => if_neg (by omega))) hm (Or.inl a4) (fun q => ?_) (fun q => absurd q (by omega)) (by simp) (fun q => absurd a1 (by omega)) (fun q => absurd a1 (by omega))⟩
    show W (dE W (if L = 0 then 0 else P L)) ≠ 18 ∧ W (dE W (if L = 0 then 0 else P L)) ≠ 19
    rw [if_neg (by omega), e2]
    exact ⟨by decide, by decide⟩
set_option maxRecDepth 100000 in
theorem comp_tab : ∀ p, p < 14 → ∀ i, i < 8 → sX2_isComplete (hS p 0 i) = some (bI (compB p i)) := by decide +kernel
theorem k_comp {v : gV} {p ask i : Nat} (h : PS v p ask i) (hp : p < 14) (hi : i < 8) : sX2_isComplete v = some (bI (compB p i)) := by
  rw [← comp_tab p hp i hi]
  obtain ⟨h1, h2, h3⟩ := h
  unfold sX2_isComplete
  rw [h1, h3]
  rfl
theorem Wm_psh (v2 : gV) (m w : Nat) : Wm (psh v2 m w) (m + 1) = upd (Wm v2 m) m (nI w) := by
  funext p
  show (if m + 1 ≤ p then (-1 : Int32) else psh v2 m w 88 p) = upd (Wm v2 m) m (nI w) p
  rw [psh_88]
  by_cases e : p = m
  · rw [if_neg (by omega), if_pos e, e, pk_us]
  · rw [pk_un e]
    show _ = (if m ≤ p then (-1 : Int32) else v2 88 p)
    by_cases h : m ≤ p
    · rw [if_pos (by omega), if_pos h]
    · rw [if_neg (by omega), if_neg h, if_neg e]
theorem eW_Wm (v2 : gV) (m : Nat) : eW (Wm v2 m) m := fun x hx => by unfold Wm; exact if_pos hx
theorem k_rb51 {v v2 : gV} {l p ask i f n0 : Nat} (hB : BR v v2 l) (h : PS v p ask i) (hp : p < 14) (ha : ask < 2) (hi : i < 8) (hD : ∀ w, w < 25 → aft p ask i w ≠ none → spB (v2 87) w f n0 = false) (F : gV → Int32 → Int32 → Option (Int32 × gV)) {at' : Nat} (h1 : f + n0 ≤ at') (h2 : at' ≤ l) : sX5_readBuffer_51 1000 F v (nI f) (nI at') = some (0, v) := by
  obtain ⟨x, e1, hx⟩ := k_read (f := f) (n := at' - f) hB h hp ha hi (by omega)
  rw [show f + (at' - f) = at' by omega] at e1
  unfold sX5_readBuffer_51
  rw [e1, ob]
  rcases hx with ⟨w, q, hw, hq, _, _⟩ | ⟨_, hx2⟩
  · exfalso
    have := hD w hw.1 (by rw [hq]; simp)
    unfold spB at this
    have e3 : spA (v2 87) w f n0 = true := spA_iff.mpr fun j hj => spA_iff.mp hw.2.2 j (by omega)
    rw [e3, decide_eq_true (show n0 ≤ lenW w by have := hw.2.1; omega)] at this
    exact absurd this (by decide)
  · rw [hx2, ob, if_pos rfl]
/-- what follows can't be read any more -/
theorem k_dead {v v2 : gV} {l p ask i f n0 : Nat} (hB : BR v v2 l) (h : PS v p ask i) (hp : p < 14) (ha : ask < 2) (hi : i < 8) (hD : ∀ w, w < 25 → aft p ask i w ≠ none → spB (v2 87) w f n0 = false) : ∀ d at' k, at' + d = l → f + n0 ≤ at' → d < k → sX5_readBuffer_18 1000 k v (nI f) (nI at') = some (0, v) := by
  have hl := hB.1
  intro d
  induction d with
  | zero =>
    intro at' k hat h1 hk
    obtain ⟨k, rfl⟩ : ∃ n, k = n + 1 := ⟨k - 1, by omega⟩
    have e : at' = l := by omega
    subst e
    unfold sX5_readBuffer_18
    rw [hB.2.1, if_neg (nI_nlt (Nat.le_refl _) (by omega)), if_pos rfl]
    exact k_rb51 hB h hp ha hi hD _ h1 (Nat.le_refl _)
  | succ d ih =>
    intro at' k hat h1 hk
    obtain ⟨k, rfl⟩ : ∃ n, k = n + 1 := ⟨k - 1, by omega⟩
    unfold sX5_readBuffer_18
    rw [hB.2.1, if_neg (nI_nlt (by omega) (by omega)), if_neg (fun q => by have := (nI_eq (by omega) (by omega)).mp q; omega), k_space hB (by omega), ob]
    by_cases hs : v2 87 at' = 32
    · rw [if_neg (show ¬ bI (decide (v2 87 at' = 32)) = 0 by simp [hs, bI])]
      exact k_rb51 hB h hp ha hi hD _ h1 (by omega)
    · rw [if_pos (show bI (decide (v2 87 at' = 32)) = 0 by simp [hs, bI]), nI_1]
      exact ih (at' + 1) k (by omega) (by omega) (by omega)
theorem cn_sp {B : Nat → Int32} {p ask i f n : Nat} (z : cn 25 (fun w => spB B w f n && (aft p ask i w).isSome) = 0) : ∀ w, w < 25 → aft p ask i w ≠ none → spB B w f n = false := by
  intro w hw hq
  have := cn_0.mp z w hw
  cases e : aft p ask i w with
  | none => exact absurd e hq
  | some q =>
    rw [e] at this
    simpa using this
theorem go_no {p ask i : Nat} (h : gO p ask i = false) : ∀ w, w < 25 → aft p ask i w = none := by
  intro w hw
  unfold gO at h
  have z : cn 25 (fun w => (aft p ask i w).isSome) = 0 := by simpa using h
  have := cn_0.mp z w hw
  cases e : aft p ask i w with
  | none => rfl
  | some q => rw [e] at this; cases this
