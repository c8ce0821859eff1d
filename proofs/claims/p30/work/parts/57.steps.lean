/-! the half-read command through each word -/
theorem len3 : ∀ w, w < 17 → 3 ≤ lenW w := by decide +kernel
theorem nI_m1 {n : Nat} (h : n < 2 ^ 31) : nI n ≠ -1 := fun q => nI_pos h (by rw [q]; decide)
theorem HL_the {v : gV} {W : Nat → Int32} {i m f f' : Nat} (h : HL v W i m f 0) (hW : eW W m) (hf : f ≤ f') : HL v (upd W m 21) i (m + 1) f' 1 := by
  obtain ⟨vb, form, L, P, ps, A, a1, a2, a3, a4, a5, a6, a7, a8, a9, a10, a11, a12⟩ := h
  refine ⟨vb, form, L, P, ps, A, a1, LI_next a2 hW rfl rfl rfl (fun _ _ _ => ⟨rfl, rfl⟩), a3, a4, fun q => ?_, fun q => ?_, Pt_the a7, a8, a9, a10, by omega, no20_up a12 (by decide)⟩
  · rcases a5 q with b | ⟨b1, b2, b3⟩
    · exact Or.inl b
    · exact Or.inr ⟨b1, b2, W_up hW b3 (by decide)⟩
  · obtain ⟨b1, b2⟩ := a6 q
    rw [(d_up 21 (a2.2.2.2.2.2.2.2.2.2.2.1 L q (Nat.le_refl _)).2.1).1]
    exact ⟨W_up hW b1 (by decide), b2⟩
theorem HL_adj {v u : gV} {W : Nat → Int32} {i m f f' k b : Nat} (h : HL v W i m f k) (hk : k ≤ 1) (hW : eW W m) (hf : f ≤ f') (hb : b < 4) (h60 : f + 3 ≤ 60) (hn : sX1_note v 4 (nI (b + 6)) = some u) : HL u (upd W m (nI (b + 6))) i (m + 1) f' 2 := by
  obtain ⟨vb, form, L, P, ps, A, a1, a2, a3, a4, a5, a6, a7, a8, a9, a10, a11, a12⟩ := h
  rw [note_a (show 6 ≤ b + 6 ∧ b + 6 < 10 by omega), no_a (s := L + 1) (by omega) a4, show b + 6 - 6 = b by omega] at hn
  have hu := (Option.some.inj hn).symm
  subst hu
  have e4 : up v 6 (L + 1) (nI b) 4 = v 4 := up_r _ _ _ _ (by decide)
  have e5 : up v 6 (L + 1) (nI b) 5 = v 5 := up_r _ _ _ _ (by decide)
  have e6 : ∀ j, j ≠ L + 1 → up v 6 (L + 1) (nI b) 6 j = v 6 j := fun j q => up_c _ _ _ _ q
  refine ⟨vb, form, L, P, ps, nI b, a1, LI_next a2 hW (by rw [e4]) (by rw [e4]) (by rw [e4]) (fun j q1 q2 => ⟨by rw [e5], e6 j (by omega)⟩), by rw [e4]; exact a3, by rw [e4]; exact a4, fun q => ?_, fun q => ?_, Pt_adj a7 hk hb, fun _ => up_s _ _ _ _, fun j q1 q2 => by rw [e6 j (by omega)]; exact a9 j q1 q2, by rw [e6 0 (by omega)]; exact a10, by omega, no20_up a12 ((show ∀ b, b < 4 → nI (b + 6) ≠ 20 by decide +kernel) b hb)⟩
  · rcases a5 q with b | ⟨b1, b2, b3⟩
    · exact Or.inl b
    · exact Or.inr ⟨b1, b2, W_up hW b3 (by decide)⟩
  · obtain ⟨b1, b2⟩ := a6 q
    rw [(d_up _ (a2.2.2.2.2.2.2.2.2.2.2.1 L q (Nat.le_refl _)).2.1).1]
    exact ⟨W_up hW b1 (by decide), b2⟩
theorem HL_noun {v u : gV} {W : Nat → Int32} {i m f f' k x : Nat} (h : HL v W i m f k) (hW : eW W m) (hf : f + 4 ≤ f') (hx : x < 6) (h60 : f + 3 ≤ 60) (hn : sX1_note v 4 (nI x) = some u) : H7 u (upd W m (nI x)) i (m + 1) f' := by
  obtain ⟨vb, form, L, P, ps, A, a1, a2, a3, a4, a5, a6, a7, a8, a9, a10, a11, a12⟩ := h
  rw [note_n hx, no_n (s := L + 1) (by omega) a4, a2.2.2.2.2.1, if_pos (nI_lt (by omega) (by omega))] at hn
  have hu := (Option.some.inj hn).symm
  subst hu
  generalize hu : up (up v 5 (L + 1) (nI x)) 4 6 (nI (L + 1)) = u
  have e6 : u 6 = v 6 := by rw [← hu, up_r _ _ _ _ (by decide), up_r _ _ _ _ (by decide)]
  have e5 : ∀ j, j ≠ L + 1 → u 5 j = v 5 j := fun j q => by rw [← hu, up_r _ _ _ _ (by decide), up_c _ _ _ _ q]
  have e5L : u 5 (L + 1) = nI x := by rw [← hu, up_r _ _ _ _ (by decide), up_s]
  have e4 : ∀ j, j ≠ 6 → u 4 j = v 4 j := fun j q => by rw [← hu, up_c _ _ _ _ q, up_r _ _ _ _ (by decide)]
  have e46 : u 4 6 = nI (L + 1) := by rw [← hu, up_s]
  obtain ⟨p1, p2⟩ := Pt_noun (x := x) a7 hx
  obtain ⟨b1, b2, b3, b4, b5, b6, b7, b8, b9, b10, b11, b12⟩ := a2
  have hLI : LI u (upd W m (nI x)) vb form (L + 1) (m + 1) (fun j => if j = L + 1 then ps else P j) := by
    refine ⟨b1, by rw [e4 3 (by decide)]; exact b2, W_up hW b3 (nI_m1 (by omega)), by rw [e4 4 (by decide)]; exact b4, e46, by omega, b7, fun q => W_up hW (b8 q) (by decide), fun q => W_up hW (b9 q) (by decide), fun q => W_up hW (b10 q) (by decide), fun j q1 q2 => ?_, fun _ => ?_⟩
    · by_cases e : j = L + 1
      · dsimp only
        rw [if_pos e, e, e5L, e6, a8 (by omega)]
        exact ⟨p1, by omega, fun q => by omega⟩
      · obtain ⟨c1, c2, c3⟩ := b11 j q1 (by omega)
        dsimp only
        rw [if_neg e, e5 j e, e6, (d_up _ c2).1]
        refine ⟨Des_up _ c2 c1, by omega, fun _ => ?_⟩
        by_cases e' : j = L
        · subst e'
          obtain ⟨d1, d2⟩ := a6 q1
          exact ⟨W_up hW d1 (by decide), by rw [if_pos rfl]; exact d2⟩
        · obtain ⟨d1, d2⟩ := c3 (by omega)
          exact ⟨W_up hW d1 (by decide), by rw [if_neg (by omega)]; exact d2⟩
    · by_cases e : L = 0
      · subst e
        dsimp only
        rw [if_pos rfl]
        rcases a5 rfl with c | ⟨c1, c2, c3⟩
        · exact Or.inl c
        · exact Or.inr ⟨c1, c2, W_up hW c3 (by decide)⟩
      · dsimp only
        rw [if_neg (by omega)]
        rcases b12 (by omega) with c | ⟨c1, c2, c3⟩
        · exact Or.inl c
        · exact Or.inr ⟨c1, c2, W_up hW c3 (by decide)⟩
  refine ⟨vb, form, L + 1, _, a1, hLI, by omega, by rw [e4 5 (by decide)]; exact a3, by rw [e4 7 (by decide)]; exact a4, ?_, fun j q1 q2 => by rw [e6]; exact a9 j q1 q2, by rw [e6]; exact a10, by omega, no20_up a12 ((show ∀ b, b < 6 → nI b ≠ 20 by decide +kernel) x hx)⟩
  rw [if_pos rfl, p2]
theorem H0_verb {v u : gV} {W : Nat → Int32} {m f' w : Nat} (h : H0 v m) (hW : eW W m) (hf : 4 ≤ f') (hw : 10 ≤ w ∧ w ≤ 14) (hn : sX1_note v 4 (nI w) = some u) : HL u (upd W m (nI w)) (w - 9) (m + 1) f' 0 := by
  obtain ⟨h1, h2, h3, h4, h5, h6, h7, h8⟩ := h
  rw [note_v ⟨hw.1, by omega⟩] at hn
  have hu := (Option.some.inj hn).symm
  subst hu
  subst h1
  generalize hu : up (up v 4 3 (nI (w - 10))) 4 7 1 = u
  have e4 : ∀ j, j ≠ 3 → j ≠ 7 → u 4 j = v 4 j := fun j q r => by rw [← hu, up_c _ _ _ _ r, up_c _ _ _ _ q]
  have e43 : u 4 3 = nI (w - 10) := by rw [← hu, up_c _ _ _ _ (by decide), up_s]
  have e47 : u 4 7 = 1 := by rw [← hu, up_s]
  have e6 : u 6 = v 6 := by rw [← hu, up_r _ _ _ _ (by decide), up_r _ _ _ _ (by decide)]
  refine ⟨w - 10, 0, 0, fun _ => 0, 1, -1, by omega, ⟨by omega, e43, ?_, by rw [e4 4 (by decide) (by decide), h3]; rfl, by rw [e4 6 (by decide) (by decide), h5]; rfl, by omega, by omega, fun q => by omega, fun q => by omega, fun q => by omega, fun j q1 q2 => by omega, fun q => by omega⟩, by rw [e4 5 (by decide) (by decide)]; exact h4, e47, fun _ => Or.inl ⟨rfl, rfl⟩, fun q => by omega, Or.inl ⟨rfl, rfl, rfl⟩, fun _ => by rw [e6]; exact h8 1 (by decide), fun j _ q => by rw [e6]; exact h8 j q, by rw [e6]; exact h8 0 (by decide), by omega, fun x hx => ?_⟩
  · rw [pk_us]; congr 1; omega
  · have : x = 0 := by omega
    rw [this, pk_us]
    exact (show ∀ w, w < 15 → nI w ≠ 20 by decide +kernel) w (by omega)
theorem H0_walk {v u : gV} {W : Nat → Int32} {m w : Nat} (h : H0 v m) (hw : 15 ≤ w ∧ w ≤ 16) (hn : sX1_note v 4 (nI w) = some u) : Fin u (upd W m (nI w)) (m + 1) := by
  obtain ⟨h1, h2, h3, h4, h5, h6, h7, h8⟩ := h
  rw [note_v ⟨by omega, by omega⟩] at hn
  have hu := (Option.some.inj hn).symm
  subst hu
  subst h1
  left
  refine ⟨w - 10, 0, fun _ => 0, by omega, ?_, ?_, by omega, ?_, fun q => by omega⟩
  · rw [up_c _ _ _ _ (by decide), up_s]
  · rw [pk_us]; congr 1; omega
  · left
    rw [up_c _ _ _ _ (by decide), up_c _ _ _ _ (by decide)]
    exact h4
theorem H0_the {v u : gV} {W : Nat → Int32} {m : Nat} (h : H0 v m) (hn : sX1_note v 4 (nI 21) = some u) : HA u (upd W m (nI 21)) 0 (m + 1) := by
  obtain ⟨h1, h2, h3, h4, h5, h6, h7, h8⟩ := h
  rw [note_o (by decide), (no_o v).2.2.2.2.1] at hn
  have hu := (Option.some.inj hn).symm
  subst hu
  subst h1
  exact ⟨h2, rfl, rfl, pk_us, h6, h7⟩
theorem H0_adj {v u : gV} {W : Nat → Int32} {m b : Nat} (h : H0 v m) (hb : b < 4) (hn : sX1_note v 4 (nI (b + 6)) = some u) : HB u (upd W m (nI (b + 6))) 0 (m + 1) := by
  obtain ⟨h1, h2, h3, h4, h5, h6, h7, h8⟩ := h
  rw [note_a (show 6 ≤ b + 6 ∧ b + 6 < 10 by omega), no_a (s := 0) (by omega) h6, show b + 6 - 6 = b by omega] at hn
  have hu := (Option.some.inj hn).symm
  subst hu
  subst h1
  have e4 : up v 6 0 (nI b) 4 = v 4 := up_r _ _ _ _ (by decide)
  have e5 : up v 6 0 (nI b) 5 = v 5 := up_r _ _ _ _ (by decide)
  refine ⟨by rw [e4]; exact h2, rfl, by rw [e4]; exact h6, by rw [e5]; exact h7, 0, b, Or.inr ⟨?_, rfl⟩, hb, pk_us, up_s _ _ _ _, rfl⟩
  rw [pk_us]
  exact (adjN b hb).2.1
theorem HA_adj {v u : gV} {W : Nat → Int32} {i m b : Nat} (h : HA v W i m) (hb : b < 4) (hn : sX1_note v 4 (nI (b + 6)) = some u) : HB u (upd W m (nI (b + 6))) i (m + 1) := by
  obtain ⟨h1, h2, h3, h4, h5, h6⟩ := h
  rw [note_a (show 6 ≤ b + 6 ∧ b + 6 < 10 by omega), no_a (s := 0) (by omega) h5, show b + 6 - 6 = b by omega] at hn
  have hu := (Option.some.inj hn).symm
  subst hu
  subst h3
  have e4 : up v 6 0 (nI b) 4 = v 4 := up_r _ _ _ _ (by decide)
  have e5 : up v 6 0 (nI b) 5 = v 5 := up_r _ _ _ _ (by decide)
  exact ⟨by rw [e4]; exact h1, h2, by rw [e4]; exact h5, by rw [e5]; exact h6, 1, b, Or.inl ⟨by rw [pk_un (by decide)]; exact h4, rfl⟩, hb, pk_us, up_s _ _ _ _, rfl⟩
theorem HB_one {v u : gV} {W : Nat → Int32} {i m : Nat} (h : HB v W i m) (hn : sX1_note v 4 (nI 24) = some u) : Fin u (upd W m (nI 24)) (m + 1) := by
  obtain ⟨h1, h2, h3, h4, a0, b, ha, hb, h5, h6, h7⟩ := h
  rw [note_o (by decide), (no_o v).2.2.2.2.2.2.2] at hn
  have hu := (Option.some.inj hn).symm
  subst hu
  right
  refine ⟨h1, a0, b, -1, ?_, hb, by rw [pk_un (by omega)]; exact h5, h6, h4, by omega, Or.inl ⟨rfl, Or.inr ?_⟩⟩
  · rw [pk_un (by omega)]; exact ha
  · rw [h7, pk_us]; decide
theorem HB_noun {v u : gV} {W : Nat → Int32} {i m x : Nat} (h : HB v W i m) (hx : x < 6) (hn : sX1_note v 4 (nI x) = some u) : Fin u (upd W m (nI x)) (m + 1) := by
  obtain ⟨h1, h2, h3, h4, a0, b, ha, hb, h5, h6, h7⟩ := h
  rw [note_n hx, no_n (s := 0) (by omega) h3] at hn
  have hu := (Option.some.inj hn).symm
  subst hu
  right
  refine ⟨?_, a0, b, nI x, ?_, hb, by rw [pk_un (by omega)]; exact h5, ?_, ?_, by omega, Or.inr ⟨x, hx, by omega, rfl, ?_⟩⟩
  · rw [up_c _ _ _ _ (by decide), up_r _ _ _ _ (by decide)]; exact h1
  · rw [pk_un (by omega)]; exact ha
  · rw [up_r _ _ _ _ (by decide), up_r _ _ _ _ (by decide)]; exact h6
  · rw [up_r _ _ _ _ (by decide), up_s]
  · rw [h7, pk_us]
