/-! the readers: an assignment -/
def StBad (f : Nat → Int32) (L : Nat) (B : Nat → Int32) (p : Nat) (fd : Nat → Int32) (fr m o : Nat) (X : ScT) (R : Int32 × Int32 × ScT) : Prop := ∃ k' Y, R = (0, nI k', Y) ∧ k' ≤ L ∧ (mRG f L (L + 1) p 0 fd fr (nI m) (nI o)).1 = B k' ∧ SameA X Y
def StOk (f : Nat → Int32) (L : Nat) (K B W : Nat → Int32) (p : Nat) (fd : Nat → Int32) (fr m o : Nat) (X : ScT) (R : Int32 × Int32 × ScT) : Prop := ∃ k' e st fd' w r o2 o3 o4 z, R = (1, nI k', rowX X w r o2 o3 o4 z) ∧ p < e ∧ e ≤ L ∧ At f L K B W k' e ∧ mRG f L (L + 1) p 0 fd fr (nI m) (nI o) = mRG f L (L + 1) e st fd' fr (nI (m + rC w r z)) (nI (o + rO w)) ∧ (st = 15 ∨ (st = 4 ∧ isS K W (nI k') 63 = 0 ∧ kOS K W (nI k') = 0 ∧ w = 0)) ∧ RwD fd' fd fr w (nI r) o2 o3 o4 (nI z) ∧ RowOk w r o2 o3 o4 z ∧ m + rC w r z ≤ 12 ∧ o + rO w ≤ 16 ∧ p + rT w r z ≤ e + rC w r z
theorem rC_0 (r z : Nat) : rC 0 r z = 0 := rfl
theorem rC_1 (r z : Nat) : rC 1 r z = 0 := rfl
theorem rC_2 (r z : Nat) : rC 2 r z = 0 := rfl
theorem rC_3 (r z : Nat) : rC 3 r z = 0 := rfl
theorem rC_7 (r z : Nat) : rC 7 r z = 0 := rfl
theorem rC_8 (r z : Nat) : rC 8 r z = 0 := rfl
theorem rC_4 (r z : Nat) : rC 4 r z = 1 := rfl
theorem rC_5 (r z : Nat) : rC 5 r z = 1 := rfl
theorem rC_6 (r z : Nat) : rC 6 r z = (z - r) * (z - r + 1) / 2 := rfl
theorem rT_0 (r z : Nat) : rT 0 r z = 1 := rfl
theorem rT_1 (r z : Nat) : rT 1 r z = 1 := rfl
theorem rT_2 (r z : Nat) : rT 2 r z = 1 := rfl
theorem rT_3 (r z : Nat) : rT 3 r z = 1 := rfl
theorem rT_4 (r z : Nat) : rT 4 r z = 1 := rfl
theorem rT_5 (r z : Nat) : rT 5 r z = 1 := rfl
theorem rT_8 (r z : Nat) : rT 8 r z = 1 := rfl
theorem rT_6 (r z : Nat) : rT 6 r z = (z - r) * (z - r + 1) / 2 := rfl
theorem rT_7 (r z : Nat) : rT 7 r z = z - r := rfl
theorem rO_0 : rO 0 = 0 := rfl
theorem rO_1 : rO 1 = 0 := rfl
theorem rO_2 : rO 2 = 0 := rfl
theorem rO_3 : rO 3 = 0 := rfl
theorem rO_4 : rO 4 = 0 := rfl
theorem rO_5 : rO 5 = 0 := rfl
theorem rO_6 : rO 6 = 0 := rfl
theorem rO_7 : rO 7 = 0 := rfl
theorem rO_8 : rO 8 = 1 := rfl
theorem rowX_0 (X : ScT) (r : Nat) (o2 o3 o4 : Int32) (z : Nat) : rowX X 0 r o2 o3 o4 z = adS (nmV X o2) 0 (nI r) (cd o2) 0 0 := by
  unfold rowX; rw [if_neg (by decide), if_neg (by decide), if_neg (by decide), if_pos rfl]
theorem rowX_1 (X : ScT) (r : Nat) (o2 o3 o4 : Int32) (z : Nat) : rowX X 1 r o2 o3 o4 z = adS (nmV (nmV X o2) o3) 1 (nI r) (cd o2) (cd o3) 0 := by
  unfold rowX; rw [if_neg (by decide), if_neg (by decide), if_neg (by decide), if_neg (by decide), if_neg (by decide), if_neg (by decide)]
theorem rowX_2 (X : ScT) (r : Nat) (o2 o3 o4 : Int32) (z : Nat) : rowX X 2 r o2 o3 o4 z = adS (nmV (nmV X o2) o3) 2 (nI r) (cd o2) (cd o3) 0 := by
  unfold rowX; rw [if_neg (by decide), if_neg (by decide), if_neg (by decide), if_neg (by decide), if_neg (by decide), if_neg (by decide)]
theorem rowX_3 (X : ScT) (r : Nat) (o2 o3 o4 : Int32) (z : Nat) : rowX X 3 r o2 o3 o4 z = adS (nmV (nmV X o2) o3) 3 (nI r) (cd o2) (cd o3) 0 := by
  unfold rowX; rw [if_neg (by decide), if_neg (by decide), if_neg (by decide), if_neg (by decide), if_neg (by decide), if_neg (by decide)]
theorem rowX_4 (X : ScT) (r : Nat) (o2 o3 o4 : Int32) (z : Nat) : rowX X 4 r o2 o3 o4 z = adS (nmV (tkC (nmV X o2) 1).2 o3) 4 (nI r) (cd o2) (cd o3) 0 := by
  unfold rowX; rw [if_neg (by decide), if_neg (by decide), if_neg (by decide), if_neg (by decide), if_pos rfl]
theorem rowX_5 (X : ScT) (r : Nat) (o2 o3 o4 : Int32) (z : Nat) : rowX X 5 r o2 o3 o4 z = adS (nmV (nmV (tkC (nmV X o2) 1).2 o3) o4) 5 (nI r) (cd o2) (cd o3) (cd o4) := by
  unfold rowX; rw [if_neg (by decide), if_neg (by decide), if_neg (by decide), if_neg (by decide), if_neg (by decide), if_pos rfl]
theorem rowX_6 (X : ScT) (r : Nat) (o2 o3 o4 : Int32) (z : Nat) : rowX X 6 r o2 o3 o4 z = swO r (z - r) (tkC X (nI ((z - r) * (z - r + 1) / 2))).2 := by
  unfold rowX; rw [if_pos rfl]
theorem rowX_7 (X : ScT) (r : Nat) (o2 o3 o4 : Int32) (z : Nat) : rowX X 7 r o2 o3 o4 z = smI (z - r) (r + 1) X := by
  unfold rowX; rw [if_neg (by decide), if_pos rfl]
theorem rowX_8 (X : ScT) (r : Nat) (o2 o3 o4 : Int32) (z : Nat) : rowX X 8 r o2 o3 o4 z = adS (tkO X).2 7 0 (nI r) 0 0 := by
  unfold rowX; rw [if_neg (by decide), if_neg (by decide), if_pos rfl]
theorem tie_ass {f : Nat → Int32} {L : Nat} {K B W : Nat → Int32} {k p : Nat} {fd : Nat → Int32} {fr m o : Nat} {X : ScT} (hL : L ≤ 120) (hf : ∀ j, j < L → ¬ f j < 0 ∧ ¬ 126 < f j) (hA : At f L K B W k p) (hfr : fr ≤ 60) (hm : m ≤ 12) (ho : o ≤ 16) (hX : X.2.2.2.2.2.2.1 = nI m) (hK1 : K k = 1) : StBad f L B p fd fr m o X (rdAss K W (nI k) X) ∨ StOk f L K B W p fd fr m o X (rdAss K W (nI k) X) := by
  have hkp := hA.kp
  have hk : k < 1000 := by omega
  obtain ⟨m0, b, e0, a, s, hpb, hbL, hB, hc⟩ := tk8 hL hf hA
  have hreg : m0 = 1 ∧ o_Mo_isRegister_r 1 b e0 = 1 ∧ b < e0 ∧ e0 ≤ L ∧ At f L K B W (k + 1) e0 ∧ ∃ r, r < 26 ∧ f b - 97 = nI r ∧ W k = nI r := by
    rcases hc with ⟨c1, -⟩ | ⟨c1, -⟩ | ⟨c1, c2, c3, ⟨d1, d2, d3, d4⟩ | ⟨d1, -⟩ | ⟨d1, -⟩ | ⟨d1, -⟩ | ⟨d1, -⟩ | ⟨d1, -⟩ | ⟨d1, -⟩⟩
    · rw [hK1] at c1; exact absurd c1 (by decide)
    · rw [hK1] at c1; exact absurd c1 (by decide)
    · exact ⟨d2, d3, c1, c2, c3, d4⟩
    all_goals (rw [hK1] at d1; exact absurd d1 (by decide))
  obtain ⟨rfl, hr1, hbe, heL, A1, r, hr, hfb, hWk⟩ := hreg
  have st0 : mRG f L (L + 1) p 0 fd fr (nI m) (nI o) = mRG f L (L + 1) e0 1 (upd (z6 fd fr) (6 * fr + 1) (nI r)) fr (nI m) (nI o) := by
    refine MR_go hL s (by decide) (by decide) ?_ (by decide) (by omega) hbe heL
    rw [nx_0, sta_reg hfr (by omega) hr1, hfb]
  rcases sgn_tie (fd := upd (z6 fd fr) (6 * fr + 1) (nI r)) (cm := nI m) (op := nI o) hL hf A1 hfr 1 2 61 (by decide) nx_1 with ⟨q1, q2⟩ | ⟨q1, e1, p1, p2, A2, q2⟩
  · exact Or.inl ⟨k + 1, X, rdAss_0 q1, by have := A1.kp; omega, by rw [st0, q2], SameA.rf X⟩
  rcases val_tie (X := X) (fd := upd (z6 fd fr) (6 * fr + 1) (nI r)) (cm := nI m) (op := nI o) hL hf A2 hfr 2 (by decide) 2 3 4 (by decide) (by decide) nx_2 nx_3 with ⟨k3, v1, v2, v3⟩ | ⟨k3, e2, v, v1, hv, v2, v3, A3, v4⟩
  · exact Or.inl ⟨k3, X, by rw [rdAss_1 hk q1 v1, if_pos rfl], v2, by rw [st0, q2, v3], SameA.rf X⟩
  have hR := rdAss_1 (X := X) hk q1 v1
  rw [if_neg (cd_m1 hv), hWk] at hR
  have st2 := st0.trans (q2.trans v4)
  have hX1 : (nmV X v).2.2.2.2.2.2.1 = nI m := (nmV_c X v).1.trans hX
  have hA3 := A3.kp
  rw [hR]
  rcases af_tie (fd := upd (upd (z6 fd fr) (6 * fr + 1) (nI r)) (6 * fr + 2) v) (cm := nI m) (op := nI o) hL hf A3 hfr (nI_le (b := 12) hm (by decide)) with ⟨g1, g2⟩ | ⟨g1, g2, e3, g5, g6, A4, g7⟩ | ⟨g1, g2, ⟨g3, e3, g5, g6, A4, g7⟩ | ⟨g3, g4⟩⟩ | ⟨g1, ⟨g3, e3, g5, g6, A4, g7⟩ | ⟨g3, g4⟩⟩
  · rw [if_pos g1, if_pos g2, g2]
    refine Or.inr ⟨k3, e2, 4, _, 0, r, v, 0, 0, 0, by rw [rowX_0], by omega, v3, A3, by rw [rC_0, rO_0, Nat.add_zero, Nat.add_zero]; exact st2, Or.inr ⟨rfl, g1, g2, rfl⟩, ⟨fun j hj => by (repeat rw [upd_ne (by omega)]); exact z6_n hfr hj, by (repeat (first | rw [upd_eq] | rw [upd_ne (by omega)])); try first | exact z6_v hfr (by decide) | exact z6_0 hfr, by (repeat (first | rw [upd_eq] | rw [upd_ne (by omega)])); try first | exact z6_v hfr (by decide) | exact z6_0 hfr, by (repeat (first | rw [upd_eq] | rw [upd_ne (by omega)])); try first | exact z6_v hfr (by decide) | exact z6_0 hfr, by (repeat (first | rw [upd_eq] | rw [upd_ne (by omega)])); try first | exact z6_v hfr (by decide) | exact z6_0 hfr, by (repeat (first | rw [upd_eq] | rw [upd_ne (by omega)])); try first | exact z6_v hfr (by decide) | exact z6_0 hfr, by (repeat (first | rw [upd_eq] | rw [upd_ne (by omega)])); try first | exact z6_v hfr (by decide) | exact z6_0 hfr⟩, ⟨hr, by decide, hv, OpV.z, OpV.z, Or.inl (Or.inl rfl), rz0 _⟩, by rw [rC_0]; omega, by rw [rO_0]; omega, by rw [rT_0, rC_0]; omega⟩
  · rcases g2 with g2 | g2 | g2
    · rw [if_pos g1, if_neg (by rw [g2]; decide), g2]
      rw [g2] at g7
      rcases val_tie (X := nmV X v) (fd := upd (upd (upd (z6 fd fr) (6 * fr + 1) (nI r)) (6 * fr + 2) v) (6 * fr) 1) (cm := nI m) (op := nI o) hL hf A4 hfr 3 (by decide) 5 6 15 (by decide) (by decide) nx_5 nx_6 with ⟨k5, u1, u2, u3⟩ | ⟨k5, e5, v5, u1, hv5, u2, u3, A5, u4⟩
      · exact Or.inl ⟨k5, nmV X v, by rw [rdSec_n (by decide) u1, if_pos rfl], u2, by rw [st2, g7, u3], nmV_a X v⟩
      · rw [rdSec_n (by decide) u1, if_neg (cd_m1 hv5)]
        refine Or.inr ⟨k5, e5, 15, _, 1, r, v, v5, 0, 0, by rw [rowX_1], by omega, u3, A5, by rw [rC_1, rO_1, Nat.add_zero, Nat.add_zero]; exact (st2.trans (g7.trans u4)), Or.inl rfl, ⟨fun j hj => by (repeat rw [upd_ne (by omega)]); exact z6_n hfr hj, by (repeat (first | rw [upd_eq] | rw [upd_ne (by omega)])); try first | exact z6_v hfr (by decide) | exact z6_0 hfr, by (repeat (first | rw [upd_eq] | rw [upd_ne (by omega)])); try first | exact z6_v hfr (by decide) | exact z6_0 hfr, by (repeat (first | rw [upd_eq] | rw [upd_ne (by omega)])); try first | exact z6_v hfr (by decide) | exact z6_0 hfr, by (repeat (first | rw [upd_eq] | rw [upd_ne (by omega)])); try first | exact z6_v hfr (by decide) | exact z6_0 hfr, by (repeat (first | rw [upd_eq] | rw [upd_ne (by omega)])); try first | exact z6_v hfr (by decide) | exact z6_0 hfr, by (repeat (first | rw [upd_eq] | rw [upd_ne (by omega)])); try first | exact z6_v hfr (by decide) | exact z6_0 hfr⟩, ⟨hr, by decide, hv, hv5, OpV.z, Or.inl (Or.inr (Or.inl rfl)), rz1 _ _⟩, by rw [rC_1]; omega, by rw [rO_1]; omega, by rw [rT_1, rC_1]; omega⟩
    · rw [if_pos g1, if_neg (by rw [g2]; decide), g2]
      rw [g2] at g7
      rcases val_tie (X := nmV X v) (fd := upd (upd (upd (z6 fd fr) (6 * fr + 1) (nI r)) (6 * fr + 2) v) (6 * fr) 2) (cm := nI m) (op := nI o) hL hf A4 hfr 3 (by decide) 5 6 15 (by decide) (by decide) nx_5 nx_6 with ⟨k5, u1, u2, u3⟩ | ⟨k5, e5, v5, u1, hv5, u2, u3, A5, u4⟩
      · exact Or.inl ⟨k5, nmV X v, by rw [rdSec_n (by decide) u1, if_pos rfl], u2, by rw [st2, g7, u3], nmV_a X v⟩
      · rw [rdSec_n (by decide) u1, if_neg (cd_m1 hv5)]
        refine Or.inr ⟨k5, e5, 15, _, 2, r, v, v5, 0, 0, by rw [rowX_2], by omega, u3, A5, by rw [rC_2, rO_2, Nat.add_zero, Nat.add_zero]; exact (st2.trans (g7.trans u4)), Or.inl rfl, ⟨fun j hj => by (repeat rw [upd_ne (by omega)]); exact z6_n hfr hj, by (repeat (first | rw [upd_eq] | rw [upd_ne (by omega)])); try first | exact z6_v hfr (by decide) | exact z6_0 hfr, by (repeat (first | rw [upd_eq] | rw [upd_ne (by omega)])); try first | exact z6_v hfr (by decide) | exact z6_0 hfr, by (repeat (first | rw [upd_eq] | rw [upd_ne (by omega)])); try first | exact z6_v hfr (by decide) | exact z6_0 hfr, by (repeat (first | rw [upd_eq] | rw [upd_ne (by omega)])); try first | exact z6_v hfr (by decide) | exact z6_0 hfr, by (repeat (first | rw [upd_eq] | rw [upd_ne (by omega)])); try first | exact z6_v hfr (by decide) | exact z6_0 hfr, by (repeat (first | rw [upd_eq] | rw [upd_ne (by omega)])); try first | exact z6_v hfr (by decide) | exact z6_0 hfr⟩, ⟨hr, by decide, hv, hv5, OpV.z, Or.inl (Or.inr (Or.inr (Or.inl rfl))), rz2 _ _⟩, by rw [rC_2]; omega, by rw [rO_2]; omega, by rw [rT_2, rC_2]; omega⟩
    · rw [if_pos g1, if_neg (by rw [g2]; decide), g2]
      rw [g2] at g7
      rcases val_tie (X := nmV X v) (fd := upd (upd (upd (z6 fd fr) (6 * fr + 1) (nI r)) (6 * fr + 2) v) (6 * fr) 3) (cm := nI m) (op := nI o) hL hf A4 hfr 3 (by decide) 5 6 15 (by decide) (by decide) nx_5 nx_6 with ⟨k5, u1, u2, u3⟩ | ⟨k5, e5, v5, u1, hv5, u2, u3, A5, u4⟩
      · exact Or.inl ⟨k5, nmV X v, by rw [rdSec_n (by decide) u1, if_pos rfl], u2, by rw [st2, g7, u3], nmV_a X v⟩
      · rw [rdSec_n (by decide) u1, if_neg (cd_m1 hv5)]
        refine Or.inr ⟨k5, e5, 15, _, 3, r, v, v5, 0, 0, by rw [rowX_3], by omega, u3, A5, by rw [rC_3, rO_3, Nat.add_zero, Nat.add_zero]; exact (st2.trans (g7.trans u4)), Or.inl rfl, ⟨fun j hj => by (repeat rw [upd_ne (by omega)]); exact z6_n hfr hj, by (repeat (first | rw [upd_eq] | rw [upd_ne (by omega)])); try first | exact z6_v hfr (by decide) | exact z6_0 hfr, by (repeat (first | rw [upd_eq] | rw [upd_ne (by omega)])); try first | exact z6_v hfr (by decide) | exact z6_0 hfr, by (repeat (first | rw [upd_eq] | rw [upd_ne (by omega)])); try first | exact z6_v hfr (by decide) | exact z6_0 hfr, by (repeat (first | rw [upd_eq] | rw [upd_ne (by omega)])); try first | exact z6_v hfr (by decide) | exact z6_0 hfr, by (repeat (first | rw [upd_eq] | rw [upd_ne (by omega)])); try first | exact z6_v hfr (by decide) | exact z6_0 hfr, by (repeat (first | rw [upd_eq] | rw [upd_ne (by omega)])); try first | exact z6_v hfr (by decide) | exact z6_0 hfr⟩, ⟨hr, by decide, hv, hv5, OpV.z, Or.inl (Or.inr (Or.inr (Or.inr (Or.inl rfl)))), rz3 _ _⟩, by rw [rC_3]; omega, by rw [rO_3]; omega, by rw [rT_3, rC_3]; omega⟩
  · rw [if_pos g1, if_neg (by rw [g2]; decide), g2]
    have hm1 : m + 1 ≤ 12 := (nI_leI (a := m + 1) (b := 12) (by omega) (by decide)).mp (by rw [← nI_1]; exact g3)
    have hc1 : ¬ (tkC (nmV X v) 1).1 = 0 := tkC_y (by rw [hX1]; exact g3)
    rw [nI_1] at g7
    rcases val_tie (X := (tkC (nmV X v) 1).2) (fd := upd (upd (upd (z6 fd fr) (6 * fr + 1) (nI r)) (6 * fr + 2) v) (6 * fr) 4) (cm := nI (m + 1)) (op := nI o) hL hf A4 hfr 3 (by decide) 5 6 15 (by decide) (by decide) nx_5 nx_6 with ⟨k5, u1, u2, u3⟩ | ⟨k5, e5, v5, u1, hv5, u2, u3, A5, u4⟩
    · exact Or.inl ⟨k5, (tkC (nmV X v) 1).2, by rw [rdSec_4 hc1 u1, if_pos rfl], u2, by rw [st2, g7, u3], (nmV_a X v).tr (tkC_a _ _)⟩
    · rw [rdSec_4 hc1 u1, if_neg (cd_m1 hv5)]
      refine Or.inr ⟨k5, e5, 15, _, 4, r, v, v5, 0, 0, by rw [rowX_4], by omega, u3, A5, by rw [rC_4, rO_4, Nat.add_zero]; exact (st2.trans (g7.trans u4)), Or.inl rfl, ⟨fun j hj => by (repeat rw [upd_ne (by omega)]); exact z6_n hfr hj, by (repeat (first | rw [upd_eq] | rw [upd_ne (by omega)])); try first | exact z6_v hfr (by decide) | exact z6_0 hfr, by (repeat (first | rw [upd_eq] | rw [upd_ne (by omega)])); try first | exact z6_v hfr (by decide) | exact z6_0 hfr, by (repeat (first | rw [upd_eq] | rw [upd_ne (by omega)])); try first | exact z6_v hfr (by decide) | exact z6_0 hfr, by (repeat (first | rw [upd_eq] | rw [upd_ne (by omega)])); try first | exact z6_v hfr (by decide) | exact z6_0 hfr, by (repeat (first | rw [upd_eq] | rw [upd_ne (by omega)])); try first | exact z6_v hfr (by decide) | exact z6_0 hfr, by (repeat (first | rw [upd_eq] | rw [upd_ne (by omega)])); try first | exact z6_v hfr (by decide) | exact z6_0 hfr⟩, ⟨hr, by decide, hv, hv5, OpV.z, Or.inl (Or.inr (Or.inr (Or.inr (Or.inr (Or.inl rfl))))), rz4 _ _⟩, by rw [rC_4]; omega, by rw [rO_4]; omega, by rw [rT_4, rC_4]; omega⟩
  · rw [if_pos g1, if_neg (by rw [g2]; decide), g2]
    exact Or.inl ⟨k3, _, rdSec_40 (tkC_n (by rw [hX1]; exact g3)), by omega, by rw [st2, g4], (nmV_a X v).tr (tkC_a _ _)⟩
  · rw [if_neg g1]
    have hm1 : m + 1 ≤ 12 := (nI_leI (a := m + 1) (b := 12) (by omega) (by decide)).mp (by rw [← nI_1]; exact g3)
    have hc1 : ¬ (tkC (nmV X v) 1).1 = 0 := tkC_y (by rw [hX1]; exact g3)
    rw [nI_1] at g7
    rcases val_tie (X := (tkC (nmV X v) 1).2) (fd := upd (upd (upd (z6 fd fr) (6 * fr + 1) (nI r)) (6 * fr + 2) v) (6 * fr) 5) (cm := nI (m + 1)) (op := nI o) hL hf A4 hfr 3 (by decide) 7 8 9 (by decide) (by decide) nx_7 nx_8 with ⟨k5, u1, u2, u3⟩ | ⟨k5, e5, v5, u1, hv5, u2, u3, A5, u4⟩
    · exact Or.inl ⟨k5, (tkC (nmV X v) 1).2, rdCho_1 hc1 u1 (Or.inl rfl), u2, by rw [st2, g7, u3], (nmV_a X v).tr (tkC_a _ _)⟩
    · rcases sgn_tie (fd := upd (upd (upd (upd (z6 fd fr) (6 * fr + 1) (nI r)) (6 * fr + 2) v) (6 * fr) 5) (6 * fr + 3) v5) (cm := nI (m + 1)) (op := nI o) hL hf A5 hfr 9 10 58 (by decide) nx_9 with ⟨q3, q4⟩ | ⟨q3, e6, p3, p4, A6, q4⟩
      · exact Or.inl ⟨k5, nmV (tkC (nmV X v) 1).2 v5, rdCho_1 hc1 u1 (Or.inr q3), by have := A5.kp; omega, by rw [st2, g7, u4, q4], ((nmV_a X v).tr (tkC_a _ _)).tr (nmV_a _ _)⟩
      · rcases val_tie (X := nmV (tkC (nmV X v) 1).2 v5) (fd := upd (upd (upd (upd (z6 fd fr) (6 * fr + 1) (nI r)) (6 * fr + 2) v) (6 * fr) 5) (6 * fr + 3) v5) (cm := nI (m + 1)) (op := nI o) hL hf A6 hfr 4 (by decide) 10 11 15 (by decide) (by decide) nx_10 nx_11 with ⟨k7, x1, x2, x3⟩ | ⟨k7, e7, v7, x1, hv7, x2, x3, A7, x4⟩
        · exact Or.inl ⟨k7, nmV (tkC (nmV X v) 1).2 v5, by rw [rdCho_2 hc1 u1 (cd_m1 hv5) q3 x1, if_pos rfl], x2, by rw [st2, g7, u4, q4, x3], ((nmV_a X v).tr (tkC_a _ _)).tr (nmV_a _ _)⟩
        · rw [rdCho_2 hc1 u1 (cd_m1 hv5) q3 x1, if_neg (cd_m1 hv7)]
          refine Or.inr ⟨k7, e7, 15, _, 5, r, v, v5, v7, 0, by rw [rowX_5], by omega, x3, A7, by rw [rC_5, rO_5, Nat.add_zero]; exact (st2.trans (g7.trans (u4.trans (q4.trans x4)))), Or.inl rfl, ⟨fun j hj => by (repeat rw [upd_ne (by omega)]); exact z6_n hfr hj, by (repeat (first | rw [upd_eq] | rw [upd_ne (by omega)])); try first | exact z6_v hfr (by decide) | exact z6_0 hfr, by (repeat (first | rw [upd_eq] | rw [upd_ne (by omega)])); try first | exact z6_v hfr (by decide) | exact z6_0 hfr, by (repeat (first | rw [upd_eq] | rw [upd_ne (by omega)])); try first | exact z6_v hfr (by decide) | exact z6_0 hfr, by (repeat (first | rw [upd_eq] | rw [upd_ne (by omega)])); try first | exact z6_v hfr (by decide) | exact z6_0 hfr, by (repeat (first | rw [upd_eq] | rw [upd_ne (by omega)])); try first | exact z6_v hfr (by decide) | exact z6_0 hfr, by (repeat (first | rw [upd_eq] | rw [upd_ne (by omega)])); try first | exact z6_v hfr (by decide) | exact z6_0 hfr⟩, ⟨hr, by decide, hv, hv5, hv7, Or.inl (Or.inr (Or.inr (Or.inr (Or.inr (Or.inr (Or.inl rfl)))))), rz5 _ _ _⟩, by rw [rC_5]; omega, by rw [rO_5]; omega, by rw [rT_5, rC_5]; omega⟩
  · rw [if_neg g1]
    exact Or.inl ⟨k3, _, rdCho_0 (tkC_n (by rw [hX1]; exact g3)), by omega, by rw [st2, g4], (nmV_a X v).tr (tkC_a _ _)⟩
