/-! the law's cases; hmain -/
def GO (F : gV → Int32 → Option Int32) (M : Nat) (x : Int32) : Prop := ∀ v' w', INV v' w' → v' 1 1 = 0 → CTA v' M → F v' x = some 1
section
variable {F : gV → Int32 → Option Int32} {v w : gV} {E M : Nat} {x2 : Int32}
theorem l_225 (x4 : Int32) (hF : GO F M (x2 + 1)) (h : INV v w) (h11 : v 1 1 = 0) (hC : CTA v E) (hE : E < M) (hM : M ≤ 1000) : sL_law_225 1000 F v x2 x4 1 = some 1 := by
  obtain ⟨c, hb, hx⟩ := CX_of h.2.2.1
  unfold sL_law_225
  rw [if_neg one_ne, l_worldSo hb hx, ob, if_neg one_ne, q_candidates hb, ob]
  by_cases z : w 84 57 = 0
  · rw [if_pos z]
    by_cases y : x2 - x2 / 4 * 4 = 3
    · obtain ⟨v', w', k1, k2, k3, k4⟩ := p_areAllButSo h h11 hC (by omega) (x4 >>> (5 &&& 31))
      rw [if_pos y, k1, ob]
      dsimp only
      rw [if_neg one_ne]
      exact hF v' w' k2 k3 (CTA_mono k4 (by omega))
    · rw [if_neg y]
      exact hF v w h h11 (CTA_mono hC (by omega))
  · rw [if_neg z]
    exact hF v w h h11 (CTA_mono hC (by omega))
theorem l_grow (x4 y : Int32) (hF : GO F M (x2 + 1)) (h : INV v w) (h11 : v 1 1 = 0) (hC : CTA v E) (hE : E < M) (hM : M ≤ 1000) : ((sL_grow 1000 v y).bind fun q_6 => (sX5_candidates q_6).bind fun q_7 => if q_7 = 0 then (sL_law_225 1000 F q_6 x2 x4 1) else ((sX5_objects q_6).bind fun q_8 => if q_8 = 12 then (sL_law_225 1000 F q_6 x2 x4 1) else ((sX5_asked q_6).bind fun q_9 => if q_9 ≤ 0 then (sL_law_225 1000 F q_6 x2 x4 0) else (sL_law_225 1000 F q_6 x2 x4 1)))) = some 1 := by
  obtain ⟨v', w', e1, h', e11, hC'⟩ := p_grow h hC y
  obtain ⟨c, hb⟩ := INV_b h'
  have hb : IB v' w' c := hb
  have fin := l_225 x4 hF h' (by rw [e11]; exact h11) hC' hE hM
  rw [e1, ob, q_candidates hb, ob]
  by_cases z : w' 84 57 = 0
  · rw [if_pos z]
    exact fin
  · rw [if_neg z, q_objects hb, ob]
    by_cases z2 : nI c = 12
    · rw [if_pos z2]
      exact fin
    · obtain ⟨a, a1, a2, a3⟩ := hC'.1
      have e7 : v' 8 7 = w' 84 57 := hb.2.2.2.2.2.2.2.1
      have e6 : v' 8 6 = w' 84 54 := hb.2.2.2.2.2.2.1
      have a4 := a3 (by rw [e7]; exact z)
      rw [if_neg z2, q_asked hb, ob, ← e6, a2, if_neg (nI_nle (by omega) (by omega))]
      exact fin
theorem l_move (x4 y : Int32) (hF : GO F M (x2 + 1)) (h : INV v w) (h11 : v 1 1 = 0) (hC : CTA v E) (hE : E < M) (hM : M ≤ 1000) : ((sX5_room v).bind fun q_14 => (sL_low y 4).bind fun q_15 => (sX5_moveTo 1000 v q_15).bind fun q_16 => if q_16.1 = q_14 then ((sX5_candidates q_16.2).bind fun q_17 => if q_17 = 0 then ((sX5_room q_16.2).bind fun q_18 => (sL_low y 4).bind fun q_19 => if q_18 = q_19 then (sL_law_225 1000 F q_16.2 x2 x4 1) else (sL_law_225 1000 F q_16.2 x2 x4 0)) else (sL_law_225 1000 F q_16.2 x2 x4 0)) else (sL_law_225 1000 F q_16.2 x2 x4 0)) = some 1 := by
  obtain ⟨r, hr, er⟩ := l_low y (n := 4) (by decide) (by decide)
  obtain ⟨v', w', e1, h', e11, e7, e4, hC'⟩ := p_move h hr hC
  have fin := l_225 x4 hF h' (by rw [e11]; exact h11) hC' hE hM
  have er' : sL_low y 4 = some (nI r) := er
  rw [show sX5_room v = some (v 9 4) from rfl, ob, er', ob, e1, ob]
  dsimp only
  rw [if_pos rfl, show sX5_candidates v' = some (v' 8 7) from rfl, ob, if_pos e7, show sX5_room v' = some (v' 9 4) from rfl, ob, ob, if_pos e4]
  exact fin
set_option maxRecDepth 100000 in
theorem aft_0 : ∀ d, d < 25 → (aft 0 0 0 d).isSome = true → 10 ≤ d ∧ d ≤ 16 := by decide +kernel
theorem rn_first {d : Nat} {ds : List Nat} {r : Nat × Nat} (hd : d < 25) (h : rn 0 0 0 (d :: ds) = some r) : ∃ vb, vb ≤ 6 ∧ d = 10 + vb := by
  have h : (match aft 0 0 0 d with
    | none => none
    | some q => rn 0 q (idx 0 d) ds) = some r := h
  cases z : aft 0 0 0 d with
  | none => rw [z] at h; cases h
  | some q =>
    have := aft_0 d hd (by rw [z]; rfl)
    exact ⟨d - 10, by omega, by omega⟩
theorem l_enter {ds : List Nat} {q V : Nat} (x4 t : Int32) (hF : GO F M (x2 + 1)) (h : INV v w) (hT : TYW w ds) (hS : ST ds q (V + 1)) (hc : compB q (V + 1) = true) (hC : CTA v E) (hE : E + 1 < M) (hM : M ≤ 1000) : ((sL_isEnterSo 1000 v t).bind fun q_13 => if q_13.1 = 0 then (sL_law_225 1000 F q_13.2 x2 x4 0) else (sL_law_225 1000 F q_13.2 x2 x4 1)) = some 1 := by
  obtain ⟨ask, hask, h55, _⟩ := SR_ask h.2.2.1
  have hne : ds ≠ [] := by
    intro e
    rw [e] at hS
    have h0 : (0 : Nat) = V + 1 := congrArg Prod.snd (Option.some.inj (hS 0 (by decide)))
    omega
  have hA : w 84 55 = 1 ∨ ∃ vb, vb ≤ 6 ∧ ds.getD 0 0 = 10 + vb := by
    have : ask = 0 ∨ ask = 1 := by omega
    rcases this with e | e
    · right
      subst e
      cases ds with
      | nil => exact absurd rfl hne
      | cons d ds =>
        obtain ⟨l, _, _, hTy⟩ := hT
        rcases hTy with ⟨q, _⟩ | ⟨_, hTP, _⟩
        · cases q
        · obtain ⟨hd, _⟩ := hTP
          exact rn_first hd (hS 0 (by decide))
    · left
      rw [h55, e]
      rfl
  obtain ⟨v', w', k1, k2, k3, _, k5⟩ := p_isEnterSo (u := t) h hT hne (fun ask ha _ => ⟨q, V + 1, hS ask ha, hc⟩) hA hC (by omega)
  rw [k1, ob]
  dsimp only
  rw [if_neg one_ne]
  exact l_225 x4 hF k2 k3 k5 hE hM
theorem l_type (x4 y z1 z2 : Int32) (hF : GO F M (x2 + 1)) (h : INV v w) (h11 : v 1 1 = 0) (hC : CTA v E) (hE : E + 1 < M) (hM : M ≤ 1000) : ((sL_type 1000 v z1 z2).bind fun q_11 => if q_11.1 < 0 then (sL_law_225 1000 F q_11.2 x2 x4 0) else (if ((y >>> (5 &&& 31)) &&& 3) = 0 then ((sL_isEnterSo 1000 q_11.2 1).bind fun q_13 => if q_13.1 = 0 then (sL_law_225 1000 F q_13.2 x2 x4 0) else (sL_law_225 1000 F q_13.2 x2 x4 1)) else ((sL_isEnterSo 1000 q_11.2 0).bind fun q_12 => if q_12.1 = 0 then (sL_law_225 1000 F q_12.2 x2 x4 0) else (sL_law_225 1000 F q_12.2 x2 x4 1)))) = some 1 := by
  obtain ⟨V, hV, v', w', ds, q, e1, h', hK, hT, hS, hc⟩ := p_type h (TY0 h h11) z1 z2
  have hC' : CTA v' E := CTA_cell hC (fun k q => hK.1 k (by omega) (by omega))
  rw [e1, ob]
  dsimp only
  rw [if_neg (nI_pos (by omega))]
  by_cases y3 : ((y >>> (5 &&& 31)) &&& 3) = 0
  · rw [if_pos y3]
    exact l_enter x4 1 hF h' hT hS hc hC' hE hM
  · rw [if_neg y3]
    exact l_enter x4 0 hF h' hT hS hc hC' hE hM
theorem l_answer (x4 y : Int32) (hF : GO F M (x2 + 1)) (h : INV v w) (h11 : v 1 1 = 0) (hq : v 8 7 ≠ 0) (hC : CTA v E) (hE : E + 1 < M) (hM : M ≤ 1000) : ((sL_isAnswerSo 1000 v y).bind fun q_29 => sL_law_225 1000 F q_29.2 x2 x4 q_29.1) = some 1 := by
  obtain ⟨v', w', k1, k2, k3, k4⟩ := p_isAnswerSo h h11 hq hC (by omega) y
  rw [k1, ob]
  exact l_225 x4 hF k2 k3 k4 hE hM
end
theorem cell_some (xs : Nat → Int32) {L e : Nat} (hL : L ≤ 260) (he : e < 52) : ∃ y, sL_cell xs L (nI e) = some y := by
  unfold sL_cell
  by_cases z : L ≤ e
  · rw [if_pos (nI_le z (by omega))]
    exact ⟨_, rfl⟩
  · rw [if_neg (nI_ge (Nat.lt_of_not_le z) (by omega)), if_pos (nI_in (by omega) (by omega))]
    exact ⟨_, rfl⟩
theorem hmL {xs : Nat → Int32} {L : Nat} (hL : L ≤ 260) : ∀ k e v w, INV v w → v 1 1 = 0 → CTA v (2 * e) → 52 < e + k → e ≤ 52 → sL_law_10 1000 xs L k v (nI e) = some 1 := by
  intro k
  induction k with
  | zero =>
    intro e v w _ _ _ h1 h2
    omega
  | succ k ih =>
    intro e v w h h11 hC h1 h2
    unfold sL_law_10
    by_cases z : e < 52
    · have hF : GO (sL_law_10 1000 xs L k) (2 * e + 2) (nI e + 1) := fun v' w' q1 q2 q3 => by
        rw [nI_1]
        exact ih (e + 1) v' w' q1 q2 (by rw [show 2 * (e + 1) = 2 * e + 2 by omega]; exact q3) (by omega) (by omega)
      obtain ⟨y, ey⟩ := cell_some xs hL z
      obtain ⟨c, hb⟩ := INV_b h
      have hb : IB v w c := hb
      rw [if_neg (show ¬ (52 : Int32) ≤ nI e from nI_ge (b := 52) z (by decide)), ey, ob, q_objects hb, ob]
      by_cases c5 : nI c < 5
      · rw [if_pos c5]
        exact l_grow _ _ hF h h11 hC (by omega) (by omega)
      · rw [if_neg c5]
        by_cases y7 : (y &&& 7) = 0
        · rw [if_pos y7]
          exact l_grow _ _ hF h h11 hC (by omega) (by omega)
        · rw [if_neg y7, q_candidates hb, ob]
          by_cases q0 : w 84 57 = 0
          · rw [if_pos q0]
            by_cases m1 : (y &&& 15) = 1
            · rw [if_pos m1]
              exact l_move _ _ hF h h11 hC (by omega) (by omega)
            · rw [if_neg m1]
              exact l_type _ _ _ _ hF h h11 hC (by omega) (by omega)
          · rw [if_neg q0]
            by_cases y3 : (y &&& 3) ≤ 0
            · rw [if_pos y3]
              by_cases m1 : (y &&& 15) = 1
              · rw [if_pos m1]
                exact l_move _ _ hF h h11 hC (by omega) (by omega)
              · rw [if_neg m1]
                exact l_type _ _ _ _ hF h h11 hC (by omega) (by omega)
            · rw [if_neg y3]
              have e7 : v 8 7 = w 84 57 := hb.2.2.2.2.2.2.2.1
              exact l_answer _ _ hF h h11 (by rw [e7]; exact q0) hC (by omega) (by omega)
    · rw [if_pos (show (52 : Int32) ≤ nI e from nI_le (a := 52) (Nat.le_of_not_lt z) (by omega))]
/-- the ghost's first row -/
def w0 : gV := fun k => if k = 82 then fun j => gTabL.getD j 0 else if k = 83 then fun j => gTabB.getD j 0 else if k = 84 then upd (fun _ => 0) 50 (-1) else fun _ => 0
theorem iv_k {k : Nat} (h1 : kd k ≠ 1) (h3 : kd k ≠ 3) : iv k = fun _ => 0 := by
  unfold iv
  rw [if_neg h1, if_neg h3]
theorem iv_row : ∀ x, x < 6 → iv (27 + 9 * x) 6 = 0 ∧ iv (27 + 9 * x) 7 = 0 := by decide +kernel
theorem INV_init {v : gV} (h0 : Init v) : INV v w0 ∧ v 1 1 = 0 ∧ CTA v 0 := by
  have z : ∀ k, k < 81 → kd k ≠ 1 → kd k ≠ 3 → ∀ j, v k j = 0 := fun k q q1 q3 j => by rw [h0 k q, iv_k q1 q3]
  have e8 : ∀ j, v 8 j = rS 0 j := fun j => by rw [h0 8 (by decide)]; rfl
  have e13 : ∀ j, v 13 j = rC 0 j := fun j => by rw [h0 13 (by decide)]; rfl
  have e84 : w0 84 = upd (fun _ => 0) 50 (-1) := rfl
  have e81 : w0 81 = fun _ => 0 := rfl
  have s : ∀ j, j ≠ 50 → w0 84 j = 0 := fun j q => by rw [e84, pk_un q]
  have s50 : w0 84 50 = -1 := by rw [e84, pk_us]
  have o1 : OKs (w0 84) 0 := ⟨by omega, s 0 (by decide), ⟨0, by decide, s 49 (by decide)⟩, fun k q => by omega, Or.inl s50, fun p _ _ => Nat.zero_le _, ⟨fun k q => absurd q (Nat.not_lt_zero k), fun i j q => absurd q (Nat.not_lt_zero i), fun k q => absurd q (Nat.not_lt_zero k)⟩, ⟨fun _ => false, s 51 (by decide), by decide⟩⟩
  have z6 : v 8 6 = 0 := by rw [e8]; rfl
  have z7 : v 8 7 = 0 := by rw [e8]; rfl
  refine ⟨⟨⟨0, by omega, z 1 (by decide) (by decide) (by decide) 1, by rw [e81]; rfl, fun i q => by omega⟩, ⟨fun _ _ => rfl, fun _ _ => rfl⟩, SR_idle (c := 0) o1 ⟨z 9 (by decide) (by decide) (by decide) 3, (z 9 (by decide) (by decide) (by decide) 4).trans (s 49 (by decide)).symm, z 9 (by decide) (by decide) (by decide) 5, fun k q => by omega⟩ ?_ ?_ ?_ ?_ ?_ ?_ ?_ (s 55 (by decide)) ?_ (s 57 (by decide)), 0, 0, by decide, by decide, z 0 (by decide) (by decide) (by decide) 5, z 0 (by decide) (by decide) (by decide) 6, by rw [e81]; rfl, fun t q => by omega⟩, z 1 (by decide) (by decide) (by decide) 1, ⟨0, Nat.le_refl _, z6, fun q => absurd z7 q⟩, fun x hx => ?_⟩
  · rw [e8, s50]; rfl
  · rw [e8, s 51 (by decide)]; rfl
  · rw [e8, s 52 (by decide)]; rfl
  · rw [e8, s 53 (by decide)]; rfl
  · rw [e8, s 54 (by decide)]; rfl
  · rw [e8, s 57 (by decide)]; rfl
  · left; rw [e13]; rfl
  · rw [e8]; rfl
  · obtain ⟨i6, i7⟩ := iv_row x hx
    have e := h0 (27 + 9 * x) (by omega)
    exact ⟨0, Nat.le_refl _, by rw [e]; exact i6, fun q => absurd (by rw [e]; exact i7) q⟩
theorem hmain (xs : Nat → Int32) (L : Nat) (v : gV) (hL : L ≤ 260) (h : Init v) : sL_law_10 1000 xs L 1000 v 0 = some 1 := by
  obtain ⟨h1, h2, h3⟩ := INV_init h
  exact hmL hL 1000 0 v w0 h1 h2 h3 (by decide) (by decide)
