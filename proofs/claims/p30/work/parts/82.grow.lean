/-! an object is added, another room is entered -/
theorem INV_ms {v w : gV} {a b : Nat} {C : Option ((Nat ⊕ Int32) × gV)} {R : Option (Int32 × gV)} {o : Nat ⊕ Int32} {v' : gV} (h : MS v w a b C R) (hC : C = some (o, v')) : ∃ w', INV v' w' := by
  obtain ⟨o', v2, r, w', e1, _, _, _, h5, _⟩ := h
  rw [hC] at e1
  have := congrArg Prod.snd (Option.some.inj e1)
  have this : v' = v2 := this
  subst this
  exact ⟨w', h5⟩
theorem p_save {v w : gV} (h : INV v w) : ∃ v1, sX5_save 1000 v = some v1 ∧ (∀ k, (k ≠ 0 ∧ k < 27) ∨ 80 < k → v1 k = v k) ∧ ∀ x, x < 6 → v1 (27 + 9 * x) = v (27 + 9 * x) ∨ (v1 (27 + 9 * x) 6 = v 8 6 ∧ v1 (27 + 9 * x) 7 = v 8 7) := by
  obtain ⟨_, _, hS, n, x, hn, hx, r5, r6, _⟩ := h
  obtain ⟨v1, g1, g2, _, _, g5⟩ := k_save hn hx r5 r6 hS
  refine ⟨v1, g1, fun k q => g2 k (by omega) (by omega), fun y hy => ?_⟩
  by_cases e : y = x
  · right
    subst e
    obtain ⟨c, ⟨_, _, _, _, _, _, a6, a7, _⟩, _⟩ := g5
    obtain ⟨c2, ⟨_, _, _, _, _, _, b6, b7, _⟩, _⟩ := hS
    exact ⟨a6.trans b6.symm, a7.trans b7.symm⟩
  · exact Or.inl (g2 _ (by omega) (by omega))
theorem CT_sv {v v' : gV} {e : Nat} (hC : CTA v e) (h6 : v' 8 6 = v 8 6) (h7 : v' 8 7 = 0) (hs : ∀ x, x < 6 → v' (27 + 9 * x) = v (27 + 9 * x) ∨ (v' (27 + 9 * x) 6 = v 8 6 ∧ v' (27 + 9 * x) 7 = v 8 7)) : CTA v' e := by
  obtain ⟨⟨a, h1, h2, h3⟩, hr⟩ := hC
  refine ⟨⟨a, h1, h6.trans h2, fun q => absurd h7 q⟩, fun x hx => ?_⟩
  rcases hs x hx with q | ⟨q1, q2⟩
  · unfold CTc
    rw [q]
    exact hr x hx
  · exact ⟨a, h1, q1.trans h2, by rw [q2]; exact h3⟩
def clo (v : gV) : gV := up (up v 8 8 (-1)) 8 7 0
theorem k_clo (v : gV) : sX3_closeQuestion v 8 = some (clo v) := rfl
theorem clo_k (v : gV) {k : Nat} (h : k ≠ 8) : clo v k = v k := by unfold clo; rw [up_r _ _ _ _ h, up_r _ _ _ _ h]
theorem clo_7 (v : gV) : clo v 8 7 = 0 := up_s _ _ _ _
theorem clo_6 (v : gV) : clo v 8 6 = v 8 6 := by unfold clo; rw [up_c _ _ _ _ (by decide), up_c _ _ _ _ (by decide)]
theorem p_move {v w : gV} {r e : Nat} (h : INV v w) (hr : r < 4) (hC : CTA v e) : ∃ v' w', sX5_moveTo 1000 v (nI r) = some (v 9 4, v') ∧ INV v' w' ∧ v' 1 = v 1 ∧ v' 8 7 = 0 ∧ v' 9 4 = nI r ∧ CTA v' e := by
  obtain ⟨v1, s1, s2, s3⟩ := p_save h
  have er : sX5_isRoom (nI r) = some 1 := by
    unfold sX5_isRoom
    rw [if_neg (nI_pos (by omega)), if_neg (show ¬ (4 : Int32) ≤ nI r from nI_ge (b := 4) hr (by decide))]
  have e9 : clo v1 9 4 = v 9 4 := by rw [clo_k _ (by decide), s2 9 (by omega)]
  have hT : tX5_moveTo 1000 v (nI r) = some (.inr (v 9 4), up (clo v1) 9 4 (nI r)) := by
    unfold tX5_moveTo
    rw [er, ob, if_neg one_ne, s1, ob, k_clo, ob, ob, e9]
  obtain ⟨w', hI⟩ := INV_ms (t_moveTo h (nI r)) hT
  refine ⟨_, w', ?_, hI, ?_, ?_, up_s _ _ _ _, CT_sv hC ?_ ?_ (fun x hx => ?_)⟩
  · unfold sX5_moveTo
    rw [er, ob, if_neg one_ne, s1, ob, k_clo, ob, ob, e9]
  · rw [up_r _ _ _ _ (by decide), clo_k _ (by decide), s2 1 (by omega)]
  · rw [up_r _ _ _ _ (by decide)]; exact clo_7 _
  · rw [up_r _ _ _ _ (by decide), clo_6, s2 8 (by omega)]
  · rw [up_r _ _ _ _ (by decide)]; exact clo_7 _
  · rw [up_r _ _ _ _ (by omega), clo_k _ (by omega)]
    exact s3 x hx
theorem p_add {v w : gV} {a b p c e : Nat} (h : INV v w) (hb' : IB v w c) (hc12 : c < 12) (ha : a < 6) (hb : b < 4) (hp : p < 5 ∨ (5 ≤ p ∧ p - 5 < c)) (hcap : p < 4 ∨ cn c (inB (w 84) (nI p)) < (if p = 4 then 6 else 4)) (hXp : 5 ≤ p → cntB (w 84) (p - 5) = true ∧ a ≠ 1 ∧ a ≠ 5) (hXu : mk c (fitB (w 84) (nI a) (nI b)) = 0) (hC : CTA v e) : ∃ r v' w', sX5_addObject 1000 v (nI a) (nI b) (nI p) = some (r, v') ∧ INV v' w' ∧ v' 1 = v 1 ∧ CTA v' e := by
  obtain ⟨v1, s1, s2, s3⟩ := p_save h
  obtain ⟨y1, y2, _⟩ := id hb'
  have huniq : ∀ c', OKs (w 84) c' → c' = c := by
    intro c' hc'
    have e := hc'.2.1.symm.trans y1.2.1
    have := hc'.1
    exact (nI_eq (by omega) (by omega)).mp e
  have hM := b_added (p := p) h ha hb (fun c' hc' => by
    rw [huniq c' hc']
    refine ⟨hc12, hp, hcap, hXp, fun k hk hq => ?_⟩
    have h0 := (mk_0 (by omega)).mp hXu k hk
    unfold fitB at h0
    rw [hq.1, hq.2] at h0
    simp at h0)
  have ea : sX4_add (clo v1) 9 (nI a) (nI b) (nI p) = some (nI c, adV (clo v1) c (nI a) (nI b) (nI p)) := k_addO hc12 (by rw [clo_k _ (by decide), s2 9 (by omega)]; exact y2.1) _ _ _
  obtain ⟨w', hI⟩ := INV_ms (o := .inr (nI c)) (v' := adV (clo v1) c (nI a) (nI b) (nI p)) hM (by rw [s1, ob, k_clo, ob, ea, ob])
  have e60 : sX5_addObject_60 1000 v (nI a) (nI b) (nI p) = some (nI c, adV (clo v1) c (nI a) (nI b) (nI p)) := by
    unfold sX5_addObject_60
    rw [y2.1, if_neg (ge_12 hc12), k_full y2 y1.1 (by omega), ob]
    have ef : (decide (4 ≤ p) && decide ((if p = 4 then 6 else 4) ≤ cn c (inB (w 84) (nI p)))) = false := by
      rcases hcap with q | q
      · rw [decide_eq_false (show ¬ 4 ≤ p by omega)]; rfl
      · rw [decide_eq_false (Nat.not_le.mpr q), Bool.and_false]
    rw [ef, if_pos bIf_eq, k_fit y2 y1.1, ob, if_pos hXu, s1, ob, k_clo, ob, ea, ob]
  have eP : sX4_hasPlace v 9 (nI p) = some 1 := by
    rcases hp with hp | ⟨h5, hpc⟩
    · unfold sX4_hasPlace sX5_isRoom
      rw [if_neg (show ¬ (5 : Int32) ≤ nI p from nI_ge (b := 5) hp (by decide)), if_neg (nI_pos (by omega))]
      by_cases y : p < 4
      · rw [if_neg (show ¬ (4 : Int32) ≤ nI p from nI_ge (b := 4) y (by decide)), ob, if_neg one_ne]
      · rw [if_pos (show (4 : Int32) ≤ nI p from nI_le (a := 4) (by omega) (by omega)), ob, if_pos rfl, if_pos (show nI p = 4 by rw [show p = 4 by omega]; rfl)]
    · obtain ⟨hcn, _⟩ := hXp h5
      unfold sX4_hasPlace sX5_isContainerNoun
      rw [if_pos (show (5 : Int32) ≤ nI p from nI_le (a := 5) h5 (by omega)), sub_5 h5, q_exists hb' hpc, ob, if_neg one_ne, if_pos (in_12 (by omega)), cl_12 (by omega), show v (9 + 1) (p - 5) = w 84 (4 * (p - 5) + 1) from (y2.2.2.2 (p - 5) hpc).1]
      unfold cntB at hcn
      rw [Bool.or_eq_true, decide_eq_true_iff, decide_eq_true_iff] at hcn
      by_cases z : w 84 (4 * (p - 5) + 1) = 1
      · rw [if_pos z, ob, if_neg one_ne]
      · rw [if_neg z, if_pos (hcn.resolve_left z), ob, if_neg one_ne]
  refine ⟨nI c, _, w', ?_, hI, ?_, CT_sv hC ?_ ?_ (fun x hx => ?_)⟩
  · unfold sX5_addObject
    rw [q_isNoun ha, ob, if_neg one_ne, q_isAdjective hb, ob, if_neg one_ne, eP, ob, if_neg one_ne]
    unfold sX5_isContainerNoun
    by_cases z : p < 5
    · have l5 : nI p < 5 := nI_lt (b := 5) z (by decide)
      by_cases z1 : nI a = 1
      · rw [if_pos z1, ob, if_neg one_ne, if_pos l5, e60]
      · rw [if_neg z1]
        by_cases z5 : nI a = 5
        · rw [if_pos z5, ob, if_neg one_ne, if_pos l5, e60]
        · rw [if_neg z5, ob, if_pos rfl, e60]
    · obtain ⟨_, a1, a5⟩ := hXp (by omega)
      rw [if_neg (show ¬ nI a = 1 from fun q => a1 ((nI_eq (b := 1) (by omega) (by decide)).mp q)), if_neg (show ¬ nI a = 5 from fun q => a5 ((nI_eq (b := 5) (by omega) (by decide)).mp q)), ob, if_pos rfl, e60]
  · rw [adV_k _ _ _ _ _ (by omega), clo_k _ (by decide), s2 1 (by omega)]
  · rw [adV_k _ _ _ _ _ (by omega), clo_6, s2 8 (by omega)]
  · rw [adV_k _ _ _ _ _ (by omega)]; exact clo_7 _
  · rw [adV_k _ _ _ _ _ (by omega), clo_k _ (by omega)]
    exact s3 x hx
def GR (v : gV) (e : Nat) (R : Option gV) : Prop := ∃ v' w', R = some v' ∧ INV v' w' ∧ v' 1 = v 1 ∧ CTA v' e
theorem p_g143 {v w : gV} {c a b p k e : Nat} {w5 t6 t0 : Int32} (h : INV v w) (hb' : IB v w c) (hc12 : c < 12) (ha : a < 6) (hb : b < 4) (hp7 : p < 7) (hXu : mk c (fitB (w 84) (nI a) (nI b)) = 0) (hC : CTA v e) (h6 : t6 = 0 ∨ (t6 = 1 ∧ k < c ∧ w5 = nI k ∧ a ≠ 1 ∧ a ≠ 5 ∧ cntB (w 84) k = true ∧ cn c (inB (w 84) (nI (5 + k))) < 4)) (h0 : t0 = 0 ∨ (t0 = 1 ∧ cn c (inB (w 84) (nI 4)) < 6)) : GR v e (sL_grow_143 1000 v (nI a) (nI b) (nI p) w5 t6 t0) := by
  have fin : ∀ q, (q < 5 ∨ (5 ≤ q ∧ q - 5 < c)) → (q < 4 ∨ cn c (inB (w 84) (nI q)) < (if q = 4 then 6 else 4)) → (5 ≤ q → cntB (w 84) (q - 5) = true ∧ a ≠ 1 ∧ a ≠ 5) → GR v e (sL_grow_173 1000 v (nI a) (nI b) (nI q)) := by
    intro q g1 g2 g3
    obtain ⟨r, v', w', k1, k2, k3, k4⟩ := p_add h hb' hc12 ha hb g1 g2 g3 hXu hC
    unfold sL_grow_173
    rw [k1, ob]
    exact ⟨v', w', rfl, k2, k3, k4⟩
  unfold sL_grow_143
  rcases h6 with e6 | ⟨e6, hk, ek, a1, a5, hcn, hcap⟩
  · rw [if_pos e6]
    rcases h0 with e0 | ⟨e0, hcap⟩
    · rw [if_pos e0, show nI p - nI p / 4 * 4 = nI (p % 4) from pk_rem (a := p) (d := 4) (by omega) (by decide) (by decide)]
      have := Nat.mod_lt p (show 4 > 0 by decide)
      exact fin (p % 4) (by omega) (by omega) (fun q => by omega)
    · rw [if_neg (by rw [e0]; exact one_ne)]
      exact fin 4 (by omega) (Or.inr (by rw [if_pos rfl]; exact hcap)) (fun q => by omega)
  · rw [if_neg (by rw [e6]; exact one_ne), ek, add_5]
    exact fin (5 + k) (Or.inr ⟨by omega, by omega⟩) (Or.inr (by rw [if_neg (by omega)]; exact hcap)) (fun _ => by rw [show 5 + k - 5 = k by omega]; exact ⟨hcn, a1, a5⟩)
theorem p_g120 {v w : gV} {c a b p k e : Nat} {w5 t6 : Int32} (h : INV v w) (hb' : IB v w c) (hc12 : c < 12) (ha : a < 6) (hb : b < 4) (hp7 : p < 7) (hXu : mk c (fitB (w 84) (nI a) (nI b)) = 0) (hC : CTA v e) (h6 : t6 = 0 ∨ (t6 = 1 ∧ k < c ∧ w5 = nI k ∧ a ≠ 1 ∧ a ≠ 5 ∧ cntB (w 84) k = true ∧ cn c (inB (w 84) (nI (5 + k))) < 4)) : GR v e (sL_grow_120 1000 v (nI a) (nI b) (nI p) w5 t6) := by
  unfold sL_grow_120
  by_cases z : nI p = 4
  · have e4 : sX5_objectsAt 1000 v 4 = some (nI (cn c (inB (w 84) (nI 4)))) := q_objectsAt (p := 4) hb' (by decide)
    rw [if_pos z, e4, ob]
    have hcl := cn_le c (inB (w 84) (nI 4))
    by_cases y : cn c (inB (w 84) (nI 4)) < 6
    · rw [if_neg (show ¬ (6 : Int32) ≤ nI _ from nI_ge (b := 6) y (by decide))]
      exact p_g143 h hb' hc12 ha hb hp7 hXu hC h6 (Or.inr ⟨rfl, y⟩)
    · rw [if_pos (show (6 : Int32) ≤ nI _ from nI_le (a := 6) (by omega) (by omega))]
      exact p_g143 h hb' hc12 ha hb hp7 hXu hC h6 (Or.inl rfl)
  · rw [if_neg z]
    exact p_g143 h hb' hc12 ha hb hp7 hXu hC h6 (Or.inl rfl)
theorem p_g69 {v w : gV} {c a b p k e : Nat} (h : INV v w) (hb' : IB v w c) (hc12 : c < 12) (ha : a < 6) (hb : b < 4) (hp7 : p < 7) (hXu : mk c (fitB (w 84) (nI a) (nI b)) = 0) (hC : CTA v e) (hk : c = 0 ∨ k < c) : GR v e (sL_grow_69 1000 v (nI a) (nI b) (nI p) (nI k)) := by
  have no : ∀ t, GR v e (sL_grow_120 1000 v (nI a) (nI b) (nI p) t 0) := fun t => p_g120 (k := 0) h hb' hc12 ha hb hp7 hXu hC (Or.inl rfl)
  unfold sL_grow_69
  by_cases z : nI p = 5
  · rw [if_pos z, q_objects hb', ob]
    by_cases zc : c = 0
    · rw [if_pos (show nI c ≤ 0 by rw [zc]; decide)]
      exact no _
    · have hk : k < c := by omega
      rw [if_neg (nI_nle (by omega) (by omega))]
      by_cases z1 : nI a = 1
      · rw [if_pos z1]
        exact no _
      · rw [if_neg z1]
        by_cases z5 : nI a = 5
        · rw [if_pos z5]
          exact no _
        · rw [if_neg z5, q_isBox hb' hk, ob]
          cases zb : cntB (w 84) k with
          | false =>
            rw [if_pos bIf_eq]
            exact no _
          | true =>
            rw [if_neg bIt_ne, add_5, q_objectsAt hb' (by omega), ob]
            have hcl := cn_le c (inB (w 84) (nI (5 + k)))
            by_cases y : cn c (inB (w 84) (nI (5 + k))) < 4
            · rw [if_neg (show ¬ (4 : Int32) ≤ nI _ from nI_ge (b := 4) y (by decide))]
              exact p_g120 h hb' hc12 ha hb hp7 hXu hC (Or.inr ⟨rfl, hk, rfl, fun q => z1 (by rw [q]; rfl), fun q => z5 (by rw [q]; rfl), zb, y⟩)
            · rw [if_pos (show (4 : Int32) ≤ nI _ from nI_le (a := 4) (by omega) (by omega))]
              exact no _
  · rw [if_neg z]
    exact no _
theorem p_grow {v w : gV} {e : Nat} (h : INV v w) (hC : CTA v e) (x : Int32) : GR v e (sL_grow 1000 v x) := by
  obtain ⟨c, hb'⟩ := INV_b h
  have hb' : IB v w c := hb'
  have h12 := hb'.1.1
  have same : GR v e (some v) := ⟨v, w, rfl, h, rfl, hC⟩
  obtain ⟨a, ha, ea⟩ := l_low (x >>> (4 &&& 31)) (n := 6) (by decide) (by decide)
  obtain ⟨b, hb, eb⟩ := l_low (x >>> (7 &&& 31)) (n := 4) (by decide) (by decide)
  obtain ⟨p, hp, ep⟩ := l_low (x >>> (9 &&& 31)) (n := 7) (by decide) (by decide)
  unfold sL_grow
  rw [show sL_low (x >>> (4 &&& 31)) 6 = some (nI a) from ea, ob, show sL_low (x >>> (7 &&& 31)) 4 = some (nI b) from eb, ob, q_objects hb', ob]
  by_cases z : c = 12
  · rw [if_pos (show nI c = 12 by rw [z]; rfl)]
    exact same
  · rw [if_neg (show ¬ nI c = 12 from fun q => z ((nI_eq (b := 12) (by omega) (by decide)).mp q)), q_fitting hb' ha hb, ob]
    by_cases zf : mk c (fitB (w 84) (nI a) (nI b)) = 0
    · rw [if_pos zf, show sL_low (x >>> (9 &&& 31)) 7 = some (nI p) from ep, ob, ob]
      by_cases zc : c = 0
      · rw [if_pos (show nI c = 0 by rw [zc]; rfl)]
        exact p_g69 (k := 0) h hb' (by omega) ha hb hp zf hC (Or.inl zc)
      · obtain ⟨k, hk, ek⟩ := l_low (x >>> (5 &&& 31)) (n := c) (by omega) (by omega)
        rw [if_neg (show ¬ nI c = 0 from fun q => zc ((nI_eq (b := 0) (by omega) (by decide)).mp q)), ob, ek, ob]
        exact p_g69 h hb' (by omega) ha hb hp zf hC (Or.inr hk)
    · rw [if_neg zf]
      exact same
