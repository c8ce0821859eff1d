/-! the half-read command through each word, the rest -/
theorem HL_form {v u : gV} {W : Nat → Int32} {i m f f' form w : Nat} (h : HL v W i m f 0) (hm : m = 1) (hW : eW W m) (hf : f ≤ f') (hw : (w = 17 ∧ form = 1) ∨ (w = 22 ∧ form = 2) ∨ (w = 23 ∧ form = 3)) (hn : sX1_note v 4 (nI w) = some u) : H2 u (upd W m (nI w)) i (m + 1) f' form := by
  subst hm
  obtain ⟨vb, form0, L, P, ps, A, a1, a2, a3, a4, a5, a6, a7, a8, a9, a10, a11, a12⟩ := h
  have hps : ps = 1 ∧ A = -1 := by
    rcases a7 with ⟨_, q, r⟩ | ⟨q, _⟩ | ⟨q, _⟩
    · exact ⟨q.symm, r⟩
    · omega
    · omega
  have hL : L = 0 := by
    refine Classical.byContradiction fun q => ?_
    have := (a6 (by omega)).2
    have := dE_le W (P L)
    omega
  subst hL
  have hform : form0 = 0 := by
    rcases a5 rfl with q | q
    · exact q.1
    · omega
  subst hform
  have hu : u = up v 4 4 (nI form) := by
    rcases hw with ⟨q1, q2⟩ | ⟨q1, q2⟩ | ⟨q1, q2⟩ <;> subst q1 <;> subst q2
    · rw [note_o (by decide), (no_o v).1] at hn
      exact (Option.some.inj hn).symm
    · rw [note_o (by decide), (no_o v).2.2.2.2.2.1, a4, if_neg (by decide)] at hn
      exact (Option.some.inj hn).symm
    · rw [note_o (by decide), (no_o v).2.2.2.2.2.2.1] at hn
      exact (Option.some.inj hn).symm
  subst hu
  obtain ⟨b1, b2, b3, b4, b5, b6, b7, b8, b9, b10, b11, b12⟩ := a2
  have e4 : ∀ j, j ≠ 4 → up v 4 4 (nI form) 4 j = v 4 j := fun j q => up_c _ _ _ _ q
  have e6 : up v 4 4 (nI form) 6 = v 6 := up_r _ _ _ _ (by decide)
  have hw20 : nI w ≠ 20 := by rcases hw with ⟨q, _⟩ | ⟨q, _⟩ | ⟨q, _⟩ <;> rw [q] <;> decide
  refine ⟨vb, P, a1, ⟨b1, by rw [e4 3 (by decide)]; exact b2, W_up hW b3 (nI_m1 (by omega)), up_s _ _ _ _, by rw [e4 6 (by decide)]; exact b5, by omega, by omega, fun q => ?_, fun q => ?_, fun q => ?_, fun j q1 q2 => by omega, fun q => by omega⟩, rfl, by rw [e4 5 (by decide)]; exact a3, by rw [e4 7 (by decide)]; exact a4, fun j q => ?_, by omega, no20_up a12 hw20⟩
  · rw [pk_us]; rcases hw with ⟨r, _⟩ | ⟨_, r⟩ | ⟨_, r⟩
    · rw [r]; rfl
    · omega
    · omega
  · rw [pk_us]; rcases hw with ⟨_, r⟩ | ⟨r, _⟩ | ⟨_, r⟩
    · omega
    · rw [r]; rfl
    · omega
  · rw [pk_us]; rcases hw with ⟨_, r⟩ | ⟨_, r⟩ | ⟨r, _⟩
    · omega
    · omega
    · rw [r]; rfl
  · rw [e6]
    by_cases e0 : j = 0
    · rw [e0]; exact a10
    · by_cases e1 : j = 1
      · rw [e1, a8 (by decide)]; exact hps.2
      · exact a9 j (by omega) q
theorem H2_but {v u : gV} {W : Nat → Int32} {i m f f' : Nat} (h : H2 v W i m f 1) (hW : eW W m) (hf : f ≤ f') (hn : sX1_note v 4 (nI 18) = some u) : HL u (upd W m (nI 18)) i (m + 1) f' 0 := by
  obtain ⟨vb, P, a1, a2, a3, a4, a5, a6, a7, a8⟩ := h
  rw [note_o (by decide), (no_o v).2.1] at hn
  have hu := (Option.some.inj hn).symm
  subst hu
  subst a3
  exact ⟨vb, 1, 0, P, 3, -1, a1, LI_next a2 hW rfl rfl rfl (fun _ _ _ => ⟨rfl, rfl⟩), a4, a5, fun _ => Or.inr ⟨rfl, rfl, pk_us⟩, fun q => by omega, Or.inl ⟨rfl, rfl, rfl⟩, fun _ => a6 1 (by decide), fun j _ q => a6 j q, a6 0 (by decide), by omega, no20_up a8 (by decide)⟩
theorem H7_and {v u : gV} {W : Nat → Int32} {i m f f' : Nat} (h : H7 v W i m f) (hW : eW W m) (hf : f + 4 ≤ f') (hn : sX1_note v 4 (nI 19) = some u) : HL u (upd W m (nI 19)) i (m + 1) f' 0 := by
  obtain ⟨vb, form, L, P, a1, a2, a3, a4, a5, a6, a7, a8, a9, a10⟩ := h
  rw [note_o (by decide), (no_o v).2.2.1, a5, nI_1] at hn
  have hu := (Option.some.inj hn).symm
  subst hu
  have e4 : ∀ j, j ≠ 7 → up v 4 7 (nI (L + 1)) 4 j = v 4 j := fun j q => up_c _ _ _ _ q
  have e5 : up v 4 7 (nI (L + 1)) 5 = v 5 := up_r _ _ _ _ (by decide)
  have e6 : up v 4 7 (nI (L + 1)) 6 = v 6 := up_r _ _ _ _ (by decide)
  have hdE := (a2.2.2.2.2.2.2.2.2.2.2.1 L a3 (Nat.le_refl _)).2.1
  refine ⟨vb, form, L, P, m + 1, -1, a1, LI_next a2 hW (e4 3 (by decide)) (e4 4 (by decide)) (e4 6 (by decide)) (fun j _ _ => ⟨by rw [e5], by rw [e6]⟩), by rw [e4 5 (by decide)]; exact a4, up_s _ _ _ _, fun q => by omega, fun _ => ?_, Or.inl ⟨rfl, rfl, rfl⟩, fun q => by rw [e6]; exact a7 (L + 1) (by omega) q, fun j q1 q2 => by rw [e6]; exact a7 j (by omega) q2, by rw [e6]; exact a8, by omega, no20_up a10 (by decide)⟩
  rw [(d_up _ hdE).1, ← a6, pk_us]
  exact ⟨rfl, rfl⟩
/-- in: the target's words begin -/
theorem HT_in {v u : gV} {W : Nat → Int32} {form L m : Nat} {P : Nat → Nat} (h : LI v W 2 form L m P) (hW : eW W m) (h1 : 1 ≤ L → m = dE W (P L)) (h0 : L = 0 → m = 2 ∧ (form = 1 ∨ form = 2 ∨ form = 3)) (h45 : v 4 5 = 0) (h60 : v 6 0 = -1) (h20 : no20 W m) (hn : sX1_note v 4 (nI 20) = some u) : HT u (upd W m (nI 20)) 3 (m + 1) 0 := by
  rw [note_o (by decide), (no_o v).2.2.2.1] at hn
  have hu := (Option.some.inj hn).symm
  subst hu
  have e4 : ∀ j, j ≠ 7 → up v 4 7 0 4 j = v 4 j := fun j q => up_c _ _ _ _ q
  have e5 : up v 4 7 0 5 = v 5 := up_r _ _ _ _ (by decide)
  have e6 : up v 4 7 0 6 = v 6 := up_r _ _ _ _ (by decide)
  obtain ⟨b1, b2, b3, b4, b5, b6, b7, b8, b9, b10, b11, b12⟩ := LI_next (v' := up v 4 7 0) (y := nI 20) h hW (e4 3 (by decide)) (e4 4 (by decide)) (e4 6 (by decide)) (fun j _ _ => ⟨by rw [e5], by rw [e6]⟩)
  have hPe : ∀ j, 1 ≤ j → (if j = 0 then m + 1 else P j) = P j := fun j q => if_neg (by omega)
  refine ⟨form, L, fun j => if j = 0 then m + 1 else P j, -1, rfl, ⟨b1, b2, b3, b4, b5, b6, b7, b8, b9, b10, fun j q1 q2 => ?_, fun q => ?_⟩, fun q => ?_, fun q => ?_, by rw [e4 5 (by decide)]; exact h45, up_s _ _ _ _, by rw [e6]; exact h60, Or.inl ⟨rfl, rfl, rfl⟩, by dsimp only; rw [if_pos rfl]; omega, ?_, fun x hx => ?_, fun j q1 q2 => ?_⟩
  · dsimp only
    rw [hPe j q1, hPe (j + 1) (by omega)]
    exact b11 j q1 q2
  · dsimp only
    rw [hPe 1 (by omega)]
    exact b12 q
  · dsimp only
    rw [hPe L q, (d_up _ (h.2.2.2.2.2.2.2.2.2.2.1 L q (Nat.le_refl _)).2.1).1, ← h1 q, pk_us]
    rfl
  · obtain ⟨c1, c2⟩ := h0 q
    rcases c2 with c | c | c
    · exact Or.inl ⟨c, by rw [c1, pk_us]; rfl⟩
    · exact Or.inr (Or.inl c)
    · exact Or.inr (Or.inr c)
  · dsimp only
    rw [if_pos rfl, show m + 1 - 1 = m by omega, pk_us]
    rfl
  · dsimp only at hx
    rw [if_pos rfl] at hx
    rw [pk_un (by omega)]
    exact h20 x (by omega)
  · dsimp only
    rw [hPe j q1, if_pos rfl]
    have := (h.2.2.2.2.2.2.2.2.2.2.1 j q1 q2).2.1
    have := dE_le W (P j)
    omega
