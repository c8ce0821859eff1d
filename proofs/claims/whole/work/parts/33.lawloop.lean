set_option maxHeartbeats 4000000 in
set_option maxRecDepth 100000 in
theorem hL_law_23 {p : Program} {e : Env} {s : State} {m : MethodId} {below : List Frame} {meth : Method} {c : Code} (l : Launch) (hst : l.stackTraces = false) {b L : Nat} {xs : Nat → Int32} (C0 : lw_At p s m meth c b L xs) (D : va_G) (cy : Nat → ClassId) (ad : Nat → Nat) (tL z0 : Nat) (hz0 : z0 = s.heap.size) (hI : gI z0 ad) (hK : gK D cy tL z0 s s.heap) (n : Nat) : ∀ (k : Nat), ∀ (v : gV) (u : Int64) (x4 : Int32) (H : Heap) (locs : List Loc) (cells slots : Nat) (ls : Array Slot), va_P D vwCl (gW cy ad v u) H → va_S (gA z0) s.heap H locs → lv_has ls 7 [(0, .ref b), (1, .ref (ad 0)), (2, .ref (ad 81)), (3, .ref (ad 89)), (4, .int x4)] → (cells + k ≤ 601000 ∧ slots + 6 * k ≤ 7290000) → sL_law_23 n xs L k v u x4 = some 1 → W p l e room_1 s m #[Value.ref b] below meth c H locs cells slots (lw_Z below #[Value.ref b] s) (F0 m 23 ls []) := by
  have C1 := C0
  obtain ⟨hx, hb, hr, hml, hown, hts0, hX, hbl, hlocks, hgv⟩ := C0
  have hts : ∀ w ∈ lw_tbl, w.before #[Value.ref b] s = true := hts0
  have hbA : ¬ gA z0 b := by rw [hz0]; exact Nat.not_le.mpr hbl
  have C0 := C1
  clear C1
  intro k
  induction k with
  | zero =>
    intro v u x4 H locs cells slots ls hP hS hl hcs hs
    exact g_none hs
  | succ k ih =>
    intro v u x4 H locs cells slots ls hP hS hl hcs hs
    rw [sL_law_23] at hs
    refine lv_iload hx hb dL_law_23 (lv_at hl 4 rfl) ?_
    refine lv_aload_n hx hb dL_law_25 rfl (lv_at hl 0 rfl) ?_
    refine va_slen hx hb hX hbl hbA hS dL_law_26 ?_
    refine lv_iconst (v := 4) hx hb dL_law_27 (by decide) ?_
    refine lv_isub hx hb dL_law_28 ?_
    refine lv_icmp_gt (tgt := 1127) hx hb dL_law_29 (by decide) (fun hc => ?_) (fun hc => ?_)
    · have hs := g_t hs hc
      refine lv_iconst (v := 1) hx hb dL_law_1127 (by decide) ?_
      refine va_forget (fun q hq => by rw [← hz0]; exact hS.2.2 q hq) ?_
      refine W.widen (k := 601024) (n := 7293034) (by omega) (by omega) ?_
      exact lw_ret hx hb hr hlocks dL_law_1128
    · have hs := g_f hs hc
      refine lv_aload_n hx hb dL_law_32 rfl (lv_at hl 0 rfl) ?_
      refine lv_iload hx hb dL_law_33 (lv_at hl 4 rfl) ?_
      refine g_chk hs (fun hc hs => ?_)
      refine va_sld hx hb hX hbl hbA hS hc dL_law_35 ?_
      refine lv_bipush (v := 31) hx hb dL_law_36 (by decide) ?_
      refine lv_iand hx hb dL_law_38 ?_
      by_cases hc0 : (xs x4.toNatClampNeg) &&& 31 = 0
      · have hs := g_t hs hc0
        refine lv_tableIn (off := 121) (tgt := 160) hx hb dL_law_39 (by rw [hc0]; decide) (by rw [hc0]; decide) (by rw [hc0]; rfl) (by decide) ?_
        exact hL_law_c0 l hst C0 D cy ad tL _ hz0 hI hK n k ih v u x4 hs H locs cells slots ls hP hS hl hcs
      have hs := g_f hs hc0
      by_cases hc1 : (xs x4.toNatClampNeg) &&& 31 = 1
      · have hs := g_t hs hc1
        refine lv_tableIn (off := 201) (tgt := 240) hx hb dL_law_39 (by rw [hc1]; decide) (by rw [hc1]; decide) (by rw [hc1]; rfl) (by decide) ?_
        exact hL_law_c1 l hst C0 D cy ad tL _ hz0 hI hK n k ih v u x4 hs H locs cells slots ls hP hS hl hcs
      have hs := g_f hs hc1
      by_cases hc2 : (xs x4.toNatClampNeg) &&& 31 = 2
      · have hs := g_t hs hc2
        refine lv_tableIn (off := 257) (tgt := 296) hx hb dL_law_39 (by rw [hc2]; decide) (by rw [hc2]; decide) (by rw [hc2]; rfl) (by decide) ?_
        exact hL_law_c2 l hst C0 D cy ad tL _ hz0 hI hK n k ih v u x4 hs H locs cells slots ls hP hS hl hcs
      have hs := g_f hs hc2
      by_cases hc3 : (xs x4.toNatClampNeg) &&& 31 = 3
      · have hs := g_t hs hc3
        refine lv_tableIn (off := 270) (tgt := 309) hx hb dL_law_39 (by rw [hc3]; decide) (by rw [hc3]; decide) (by rw [hc3]; rfl) (by decide) ?_
        exact hL_law_c3 l hst C0 D cy ad tL _ hz0 hI hK n k ih v u x4 hs H locs cells slots ls hP hS hl hcs
      have hs := g_f hs hc3
      by_cases hc4 : (xs x4.toNatClampNeg) &&& 31 = 4
      · have hs := g_t hs hc4
        refine lv_tableIn (off := 326) (tgt := 365) hx hb dL_law_39 (by rw [hc4]; decide) (by rw [hc4]; decide) (by rw [hc4]; rfl) (by decide) ?_
        exact hL_law_c4 l hst C0 D cy ad tL _ hz0 hI hK n k ih v u x4 hs H locs cells slots ls hP hS hl hcs
      have hs := g_f hs hc4
      by_cases hc5 : (xs x4.toNatClampNeg) &&& 31 = 5
      · have hs := g_t hs hc5
        refine lv_tableIn (off := 382) (tgt := 421) hx hb dL_law_39 (by rw [hc5]; decide) (by rw [hc5]; decide) (by rw [hc5]; rfl) (by decide) ?_
        exact hL_law_c5 l hst C0 D cy ad tL _ hz0 hI hK n k ih v u x4 hs H locs cells slots ls hP hS hl hcs
      have hs := g_f hs hc5
      by_cases hc6 : (xs x4.toNatClampNeg) &&& 31 = 6
      · have hs := g_t hs hc6
        refine lv_tableIn (off := 438) (tgt := 477) hx hb dL_law_39 (by rw [hc6]; decide) (by rw [hc6]; decide) (by rw [hc6]; rfl) (by decide) ?_
        exact hL_law_c6 l hst C0 D cy ad tL _ hz0 hI hK n k ih v u x4 hs H locs cells slots ls hP hS hl hcs
      have hs := g_f hs hc6
      by_cases hc7 : (xs x4.toNatClampNeg) &&& 31 = 7
      · have hs := g_t hs hc7
        refine lv_tableIn (off := 501) (tgt := 540) hx hb dL_law_39 (by rw [hc7]; decide) (by rw [hc7]; decide) (by rw [hc7]; rfl) (by decide) ?_
        exact hL_law_c7 l hst C0 D cy ad tL _ hz0 hI hK n k ih v u x4 hs H locs cells slots ls hP hS hl hcs
      have hs := g_f hs hc7
      by_cases hc8 : (xs x4.toNatClampNeg) &&& 31 = 8
      · have hs := g_t hs hc8
        refine lv_tableIn (off := 557) (tgt := 596) hx hb dL_law_39 (by rw [hc8]; decide) (by rw [hc8]; decide) (by rw [hc8]; rfl) (by decide) ?_
        exact hL_law_c8 l hst C0 D cy ad tL _ hz0 hI hK n k ih v u x4 hs H locs cells slots ls hP hS hl hcs
      have hs := g_f hs hc8
      by_cases hc9 : (xs x4.toNatClampNeg) &&& 31 = 9
      · have hs := g_t hs hc9
        refine lv_tableIn (off := 570) (tgt := 609) hx hb dL_law_39 (by rw [hc9]; decide) (by rw [hc9]; decide) (by rw [hc9]; rfl) (by decide) ?_
        exact hL_law_c9 l hst C0 D cy ad tL _ hz0 hI hK n k ih v u x4 hs H locs cells slots ls hP hS hl hcs
      have hs := g_f hs hc9
      by_cases hc10 : (xs x4.toNatClampNeg) &&& 31 = 10
      · have hs := g_t hs hc10
        refine lv_tableIn (off := 583) (tgt := 622) hx hb dL_law_39 (by rw [hc10]; decide) (by rw [hc10]; decide) (by rw [hc10]; rfl) (by decide) ?_
        exact hL_law_c10 l hst C0 D cy ad tL _ hz0 hI hK n k ih v u x4 hs H locs cells slots ls hP hS hl hcs
      have hs := g_f hs hc10
      by_cases hc11 : (xs x4.toNatClampNeg) &&& 31 = 11
      · have hs := g_t hs hc11
        refine lv_tableIn (off := 639) (tgt := 678) hx hb dL_law_39 (by rw [hc11]; decide) (by rw [hc11]; decide) (by rw [hc11]; rfl) (by decide) ?_
        exact hL_law_c11 l hst C0 D cy ad tL _ hz0 hI hK n k ih v u x4 hs H locs cells slots ls hP hS hl hcs
      have hs := g_f hs hc11
      by_cases hc12 : (xs x4.toNatClampNeg) &&& 31 = 12
      · have hs := g_t hs hc12
        refine lv_tableIn (off := 707) (tgt := 746) hx hb dL_law_39 (by rw [hc12]; decide) (by rw [hc12]; decide) (by rw [hc12]; rfl) (by decide) ?_
        exact hL_law_c12 l hst C0 D cy ad tL _ hz0 hI hK n k ih v u x4 hs H locs cells slots ls hP hS hl hcs
      have hs := g_f hs hc12
      by_cases hc13 : (xs x4.toNatClampNeg) &&& 31 = 13
      · have hs := g_t hs hc13
        refine lv_tableIn (off := 720) (tgt := 759) hx hb dL_law_39 (by rw [hc13]; decide) (by rw [hc13]; decide) (by rw [hc13]; rfl) (by decide) ?_
        exact hL_law_c13 l hst C0 D cy ad tL _ hz0 hI hK n k ih v u x4 hs H locs cells slots ls hP hS hl hcs
      have hs := g_f hs hc13
      by_cases hc14 : (xs x4.toNatClampNeg) &&& 31 = 14
      · have hs := g_t hs hc14
        refine lv_tableIn (off := 733) (tgt := 772) hx hb dL_law_39 (by rw [hc14]; decide) (by rw [hc14]; decide) (by rw [hc14]; rfl) (by decide) ?_
        exact hL_law_c14 l hst C0 D cy ad tL _ hz0 hI hK n k ih v u x4 hs H locs cells slots ls hP hS hl hcs
      have hs := g_f hs hc14
      by_cases hc15 : (xs x4.toNatClampNeg) &&& 31 = 15
      · have hs := g_t hs hc15
        refine lv_tableIn (off := 746) (tgt := 785) hx hb dL_law_39 (by rw [hc15]; decide) (by rw [hc15]; decide) (by rw [hc15]; rfl) (by decide) ?_
        exact hL_law_c15 l hst C0 D cy ad tL _ hz0 hI hK n k ih v u x4 hs H locs cells slots ls hP hS hl hcs
      have hs := g_f hs hc15
      by_cases hc16 : (xs x4.toNatClampNeg) &&& 31 = 16
      · have hs := g_t hs hc16
        refine lv_tableIn (off := 802) (tgt := 841) hx hb dL_law_39 (by rw [hc16]; decide) (by rw [hc16]; decide) (by rw [hc16]; rfl) (by decide) ?_
        exact hL_law_c16 l hst C0 D cy ad tL _ hz0 hI hK n k ih v u x4 hs H locs cells slots ls hP hS hl hcs
      have hs := g_f hs hc16
      by_cases hc17 : (xs x4.toNatClampNeg) &&& 31 = 17
      · have hs := g_t hs hc17
        refine lv_tableIn (off := 858) (tgt := 897) hx hb dL_law_39 (by rw [hc17]; decide) (by rw [hc17]; decide) (by rw [hc17]; rfl) (by decide) ?_
        exact hL_law_c17 l hst C0 D cy ad tL _ hz0 hI hK n k ih v u x4 hs H locs cells slots ls hP hS hl hcs
      have hs := g_f hs hc17
      by_cases hc18 : (xs x4.toNatClampNeg) &&& 31 = 18
      · have hs := g_t hs hc18
        refine lv_tableIn (off := 871) (tgt := 910) hx hb dL_law_39 (by rw [hc18]; decide) (by rw [hc18]; decide) (by rw [hc18]; rfl) (by decide) ?_
        exact hL_law_c18 l hst C0 D cy ad tL _ hz0 hI hK n k ih v u x4 hs H locs cells slots ls hP hS hl hcs
      have hs := g_f hs hc18
      by_cases hc19 : (xs x4.toNatClampNeg) &&& 31 = 19
      · have hs := g_t hs hc19
        refine lv_tableIn (off := 884) (tgt := 923) hx hb dL_law_39 (by rw [hc19]; decide) (by rw [hc19]; decide) (by rw [hc19]; rfl) (by decide) ?_
        exact hL_law_c19 l hst C0 D cy ad tL _ hz0 hI hK n k ih v u x4 hs H locs cells slots ls hP hS hl hcs
      have hs := g_f hs hc19
      by_cases hc20 : (xs x4.toNatClampNeg) &&& 31 = 20
      · have hs := g_t hs hc20
        refine lv_tableIn (off := 928) (tgt := 967) hx hb dL_law_39 (by rw [hc20]; decide) (by rw [hc20]; decide) (by rw [hc20]; rfl) (by decide) ?_
        exact hL_law_c20 l hst C0 D cy ad tL _ hz0 hI hK n k ih v u x4 hs H locs cells slots ls hP hS hl hcs
      have hs := g_f hs hc20
      by_cases hc21 : (xs x4.toNatClampNeg) &&& 31 = 21
      · have hs := g_t hs hc21
        refine lv_tableIn (off := 972) (tgt := 1011) hx hb dL_law_39 (by rw [hc21]; decide) (by rw [hc21]; decide) (by rw [hc21]; rfl) (by decide) ?_
        exact hL_law_c21 l hst C0 D cy ad tL _ hz0 hI hK n k ih v u x4 hs H locs cells slots ls hP hS hl hcs
      have hs := g_f hs hc21
      by_cases hc22 : (xs x4.toNatClampNeg) &&& 31 = 22
      · have hs := g_t hs hc22
        refine lv_tableIn (off := 985) (tgt := 1024) hx hb dL_law_39 (by rw [hc22]; decide) (by rw [hc22]; decide) (by rw [hc22]; rfl) (by decide) ?_
        exact hL_law_c22 l hst C0 D cy ad tL _ hz0 hI hK n k ih v u x4 hs H locs cells slots ls hP hS hl hcs
      have hs := g_f hs hc22
      by_cases hc23 : (xs x4.toNatClampNeg) &&& 31 = 23
      · have hs := g_t hs hc23
        refine lv_tableIn (off := 998) (tgt := 1037) hx hb dL_law_39 (by rw [hc23]; decide) (by rw [hc23]; decide) (by rw [hc23]; rfl) (by decide) ?_
        exact hL_law_c23 l hst C0 D cy ad tL _ hz0 hI hK n k ih v u x4 hs H locs cells slots ls hP hS hl hcs
      have hs := g_f hs hc23
      by_cases hc24 : (xs x4.toNatClampNeg) &&& 31 = 24
      · have hs := g_t hs hc24
        refine lv_tableIn (off := 1011) (tgt := 1050) hx hb dL_law_39 (by rw [hc24]; decide) (by rw [hc24]; decide) (by rw [hc24]; rfl) (by decide) ?_
        exact hL_law_c24 l hst C0 D cy ad tL _ hz0 hI hK n k ih v u x4 hs H locs cells slots ls hP hS hl hcs
      have hs := g_f hs hc24
      by_cases hc25 : (xs x4.toNatClampNeg) &&& 31 = 25
      · have hs := g_t hs hc25
        refine lv_tableIn (off := 1055) (tgt := 1094) hx hb dL_law_39 (by rw [hc25]; decide) (by rw [hc25]; decide) (by rw [hc25]; rfl) (by decide) ?_
        exact hL_law_c25 l hst C0 D cy ad tL _ hz0 hI hK n k ih v u x4 hs H locs cells slots ls hP hS hl hcs
      have hs := g_f hs hc25
      by_cases hc26 : (xs x4.toNatClampNeg) &&& 31 = 26
      · have hs := g_t hs hc26
        refine lv_tableIn (off := 1068) (tgt := 1107) hx hb dL_law_39 (by rw [hc26]; decide) (by rw [hc26]; decide) (by rw [hc26]; rfl) (by decide) ?_
        exact hL_law_c26 l hst C0 D cy ad tL _ hz0 hI hK n k ih v u x4 hs H locs cells slots ls hP hS hl hcs
      have hs := g_f hs hc26
      refine lv_tableOut (tgt := 1121) hx hb dL_law_39 (by have n0 := g_neI (i := 0) hc0 (by decide); have n1 := g_neI (i := 1) hc1 (by decide); have n2 := g_neI (i := 2) hc2 (by decide); have n3 := g_neI (i := 3) hc3 (by decide); have n4 := g_neI (i := 4) hc4 (by decide); have n5 := g_neI (i := 5) hc5 (by decide); have n6 := g_neI (i := 6) hc6 (by decide); have n7 := g_neI (i := 7) hc7 (by decide); have n8 := g_neI (i := 8) hc8 (by decide); have n9 := g_neI (i := 9) hc9 (by decide); have n10 := g_neI (i := 10) hc10 (by decide); have n11 := g_neI (i := 11) hc11 (by decide); have n12 := g_neI (i := 12) hc12 (by decide); have n13 := g_neI (i := 13) hc13 (by decide); have n14 := g_neI (i := 14) hc14 (by decide); have n15 := g_neI (i := 15) hc15 (by decide); have n16 := g_neI (i := 16) hc16 (by decide); have n17 := g_neI (i := 17) hc17 (by decide); have n18 := g_neI (i := 18) hc18 (by decide); have n19 := g_neI (i := 19) hc19 (by decide); have n20 := g_neI (i := 20) hc20 (by decide); have n21 := g_neI (i := 21) hc21 (by decide); have n22 := g_neI (i := 22) hc22 (by decide); have n23 := g_neI (i := 23) hc23 (by decide); have n24 := g_neI (i := 24) hc24 (by decide); have n25 := g_neI (i := 25) hc25 (by decide); have n26 := g_neI (i := 26) hc26 (by decide); omega) (by decide) ?_
      refine lv_iinc (v := x4 + 4) (lv' := [(4, .int (x4 + 4)), (0, .ref b), (1, .ref (ad 0)), (2, .ref (ad 81)), (3, .ref (ad 89))]) hx hb dL_law_1121 hl (k := 4) rfl rfl (by decide) rfl (fun ls hl => ?_)
      refine lv_goto (tgt := 23) hx hb dL_law_1124 (by decide) ?_
      exact ih v u (x4 + 4) _ _ _ _ _ hP hS (lv_sub hl [1, 2, 3, 4, 0] rfl) (by omega) hs
