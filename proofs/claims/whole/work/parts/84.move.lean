/-! a move of the office -/
def muO (K : Nat) (k : Nat → Nat) (cnt : Nat) : Nat := 2 * ((K - k 0) + (K - k 1) + (K - k 2)) + cnt
def rdO (y : ScT) (pq : Nat → Int64 × Int64 × Int32) (pd px : Nat → Int32 → Int64) (S0 : SyT) (k : Nat → Nat) (bn : Nat → Nat → Int32) (bw : Nat → Nat → Int64) (i : Nat) : Nat := if cnS (kSt y pd px S0 k i) (rsO y pq bn bw i) = 0 then 0 else 1
abbrev rm_move : Room := { frames := 5, cells := 0, slots := 0, locals := 111 }
theorem mu_go {K : Nat} {k : Nat → Nat} {cnt c' i : Nat} (hi : i < 3) (hk : k i < K) (hc : c' ≤ cnt + 1) : muO K (fun j => if j = i then k i + 1 else k j) c' < muO K k cnt := by
  unfold muO
  rcases (show i = 0 ∨ i = 1 ∨ i = 2 by omega) with rfl | rfl | rfl <;> simp <;> omega
set_option maxHeartbeats 4000000 in
set_option maxRecDepth 100000 in
theorem mv_inv (l : Launch) (G : Gt) (h0 : Nat) (kp : Nat → Nat) (h2 : Nat) (ch : Int64) (cf : Nat → Option Nat) (a0 a1 a2 : Nat → Nat) (hcf0 : cf 0 = some (a0 0)) (hcf1 : cf 1 = some (a1 0)) (hcf2 : cf 2 = some (a2 0)) {y : ScT} {n : Nat} {pq : Nat → Int64 × Int64 × Int32} {pd px : Nat → Int32 → Int64} {S0 : SyT} {K : Nat} {k : Nat → Nat} {bn : Nat → Nat → Int32} {bw : Nat → Nat → Int64} {cnt : Nat} {P : PoT}
    (hS : ScOk y n) (hP : PqOk pq pd px) (hQ : SqOk y n pd px S0 K) (hI : IvO y pd px S0 K k bn bw cnt P) (X : Nat) (hX : X < cnt + (rdO y pq pd px S0 k bn bw 0 + rdO y pq pd px S0 k bn bw 1 + rdO y pq pd px S0 k bn bw 2)) :
    Ct l G y_Office_makeMove b_Office_makeMove 4 none rm_move [.ref h0, .int (nI X)] (ofB G h0 kp h2 ch cf P a0 a1 a2 (kSt y pd px S0 k) (rsO y pq bn bw)) 0 0 (fun v w' => v = none ∧ ∃ k' bn' bw' cnt' P', IvO y pd px S0 K k' bn' bw' cnt' P' ∧ muO K k' cnt' < muO K k cnt ∧ w' = ofB G h0 kp h2 ch cf P' a0 a1 a2 (kSt y pd px S0 k') (rsO y pq bn' bw')) := by
  have hC : as_C K (wtN (sF y pd px) S0) (snN (sF y pd px) S0) := seq_C (kd := y.1) (tg := y.2.1) (fi := y.2.2.1) (se := y.2.2.2.1) (th := y.2.2.2.2.1) (pd := pd) (px := px) hQ.1 hQ.2.2.2.2.2.2.1
  have few := as_few hC hI.2
  have hc1 : P.1 = nI cnt := hI.1
  have hkK : ∀ i, i < 3 → k i ≤ K := hI.2.1
  have hr3 : ∀ i, rdO y pq pd px S0 k bn bw i ≤ 1 := fun i => by unfold rdO; split <;> omega
  have hr0 := hr3 0
  have hr1 := hr3 1
  have hr2 := hr3 2
  have rdy : ∀ i, i < 3 → ¬ cnS (kSt y pd px S0 k i) (rsO y pq bn bw i) = 0 → k i < K ∧ (wtN (sF y pd px) S0 (k i) = true → bn i (snN (sF y pd px) S0 (k i) % 8) = nI (snN (sF y pd px) S0 (k i))) := fun i hi h => (rdy_iff (i := i) hS hQ (hkK i hi) (bn i) (bw i) (pq i)).mp h
  have ht : ∀ i, i < 3 → ¬ cnS (kSt y pd px S0 k i) (rsO y pq bn bw i) = 0 → vp_in (kSt y pd px S0 k i).2.2.2.2.1.1 132 := fun i hi h => by
    obtain ⟨j, hj, ej⟩ := hQ.2.2.2.2.2.2.2 (k i) (rdy i hi h).1
    have hn := hS.2.1
    unfold kSt
    rw [(vwC_ct i _).1, ej]
    exact vp_in_nI (by omega) (by omega)
  have hoc : ∀ i, ¬ (kSt y pd px S0 k i).2.2.2.2.2.2 < 0 := fun i => by
    unfold kSt
    rw [(vwC_ct i _).2.1]
    exact (seq_oc (kd := y.1) (tg := y.2.1) (fi := y.2.2.1) (se := y.2.2.2.1) (th := y.2.2.2.2.1) (pd := pd) (px := px) hQ.2.2.1 hQ.2.2.2.1 (k i)).1
  have hpc0 : ¬ P.1 < 0 := by rw [hc1]; exact nI_pos (by omega)
  have hpc1 : ¬ 16 ≤ P.1 := by rw [hc1]; exact nI_ge (b := 16) (by omega) (by omega)
  by_cases hm : X < cnt
  · obtain ⟨i, hi, hri, bn', bw', hI', hrs⟩ := dl_on (pq := pq) hS hQ hI hm
    have ex : (nI X).toNatClampNeg = X := nI_clamp (by omega)
    have hpx : ¬ nI X < 0 := nI_pos (by omega)
    have hpy : nI X < P.1 := by rw [hc1]; exact nI_lt hm (by omega)
    have hvx : vp_in (nI X) 16 := vp_in_nI (by omega) (by omega)
    have hvc : vp_in (P.1 - 1) 16 := by
      rw [hc1]
      obtain ⟨c', rfl⟩ : ∃ c', cnt = c' + 1 := ⟨cnt - 1, by omega⟩
      rw [nI_pred]
      exact vp_in_nI (by omega) (by omega)
    have hxq : ¬ P.1 ≤ nI X := by rw [hc1]; exact nI_ge hm (by omega)
    have hmu : muO K k (cnt - 1) < muO K k cnt := by unfold muO; omega
    have q0 := hrs 0 (by omega)
    have q1 := hrs 1 (by omega)
    have q2 := hrs 2 (by omega)
    rcases (show i = 0 ∨ i = 1 ∨ i = 2 by omega) with rfl | rfl | rfl
    · have hrj : P.2.1 (nI X).toNatClampNeg = 0 := by rw [ex, hri]; decide
      refine ((cb_Office_dl0 l G h0 kp h2 ch cf P a0 a1 a2 (kSt y pd px S0 k 0) (kSt y pd px S0 k 1) (kSt y pd px S0 k 2) (rsO y pq bn bw 0) (rsO y pq bn bw 1) (rsO y pq bn bw 2) (nI X) hcf0 hcf1 hcf2 hpx hpy hvx hvc hxq hrj).room (rm' := rm_move) (by decide) (by decide) (by decide) (by decide)).weaken (fun v w' hp => ?_)
      obtain ⟨rfl, rfl⟩ := hp
      refine ⟨rfl, k, bn', bw', cnt - 1, poDl P X, hI', hmu, ?_⟩
      rw [ex]
      unfold ofB
      rw [q0, q1, q2]
      rfl
    · have hrj : P.2.1 (nI X).toNatClampNeg = 1 := by rw [ex, hri]; decide
      refine ((cb_Office_dl1 l G h0 kp h2 ch cf P a0 a1 a2 (kSt y pd px S0 k 0) (kSt y pd px S0 k 1) (kSt y pd px S0 k 2) (rsO y pq bn bw 0) (rsO y pq bn bw 1) (rsO y pq bn bw 2) (nI X) hcf0 hcf1 hcf2 hpx hpy hvx hvc hxq hrj).room (rm' := rm_move) (by decide) (by decide) (by decide) (by decide)).weaken (fun v w' hp => ?_)
      obtain ⟨rfl, rfl⟩ := hp
      refine ⟨rfl, k, bn', bw', cnt - 1, poDl P X, hI', hmu, ?_⟩
      rw [ex]
      unfold ofB
      rw [q0, q1, q2]
      rfl
    · have hrj : P.2.1 (nI X).toNatClampNeg = 2 := by rw [ex, hri]; decide
      refine ((cb_Office_dl2 l G h0 kp h2 ch cf P a0 a1 a2 (kSt y pd px S0 k 0) (kSt y pd px S0 k 1) (kSt y pd px S0 k 2) (rsO y pq bn bw 0) (rsO y pq bn bw 1) (rsO y pq bn bw 2) (nI X) hcf0 hcf1 hcf2 hpx hpy hvx hvc hxq hrj).room (rm' := rm_move) (by decide) (by decide) (by decide) (by decide)).weaken (fun v w' hp => ?_)
      obtain ⟨rfl, rfl⟩ := hp
      refine ⟨rfl, k, bn', bw', cnt - 1, poDl P X, hI', hmu, ?_⟩
      rw [ex]
      unfold ofB
      rw [q0, q1, q2]
      rfl
  · have hxp : P.1 ≤ nI X := by rw [hc1]; exact nI_le (by omega) (by omega)
    by_cases ww0 : cnS (kSt y pd px S0 k 0) (rsO y pq bn bw 0) = 0
    · by_cases ww1 : cnS (kSt y pd px S0 k 1) (rsO y pq bn bw 1) = 0
      · by_cases ww2 : cnS (kSt y pd px S0 k 2) (rsO y pq bn bw 2) = 0
        · exfalso
          have e0 : rdO y pq pd px S0 k bn bw 0 = 0 := if_pos ww0
          have e1 : rdO y pq pd px S0 k bn bw 1 = 0 := if_pos ww1
          have e2 : rdO y pq pd px S0 k bn bw 2 = 0 := if_pos ww2
          omega
        · by_cases ww3 : P.1 = nI X
          · obtain ⟨g1, c', g2, g3⟩ := go_on (pq := pq) hS hQ hI (i := 2) (by decide) (rdy 2 (by decide) ww2)
            refine ((cb_Office_go_2 l G h0 kp h2 ch cf P a0 a1 a2 (kSt y pd px S0 k 0) (kSt y pd px S0 k 1) (kSt y pd px S0 k 2) (rsO y pq bn bw 0) (rsO y pq bn bw 1) (rsO y pq bn bw 2) (pd 0) (pd 1) (pd 2) (px 0) (px 1) (px 2) (nI X) hcf0 hcf1 hcf2 hpc0 hpc1 (ht 0 (by decide)) hS.2.2.1 hS.2.2.2.1 hS.2.2.2.2.1 hS.2.2.2.2.2.1 hS.2.2.2.2.2.2 (hoc 0) (hP.1 0 (by decide)) (hP.2 0 (by decide)) (ht 1 (by decide)) hS.2.2.1 hS.2.2.2.1 hS.2.2.2.2.1 hS.2.2.2.2.2.1 hS.2.2.2.2.2.2 (hoc 1) (hP.1 1 (by decide)) (hP.2 1 (by decide)) (ht 2 (by decide)) hS.2.2.1 hS.2.2.2.1 hS.2.2.2.2.1 hS.2.2.2.2.2.1 hS.2.2.2.2.2.2 (hoc 2) (hP.1 2 (by decide)) (hP.2 2 (by decide)) hxp ww0 ww1 ww2 ww3).room (rm' := rm_move) (by decide) (by decide) (by decide) (by decide)).weaken (fun v w' hp => ?_)
            obtain ⟨rfl, rfl⟩ := hp
            refine ⟨rfl, _, bn, bw, c', _, g3, mu_go (by decide) (rdy 2 (by decide) ww2).1 g2, ?_⟩
            unfold ofB
            rw [← g1]
            rfl
          · exfalso
            have e0 : rdO y pq pd px S0 k bn bw 0 = 0 := if_pos ww0
            have e1 : rdO y pq pd px S0 k bn bw 1 = 0 := if_pos ww1
            have e2 : rdO y pq pd px S0 k bn bw 2 = 1 := if_neg ww2
            have n0 : X ≠ cnt + 0 := fun q => ww3 (by rw [hc1, q]; rfl)
            omega
      · by_cases ww2 : P.1 = nI X
        · obtain ⟨g1, c', g2, g3⟩ := go_on (pq := pq) hS hQ hI (i := 1) (by decide) (rdy 1 (by decide) ww1)
          refine ((cb_Office_go_6 l G h0 kp h2 ch cf P a0 a1 a2 (kSt y pd px S0 k 0) (kSt y pd px S0 k 1) (kSt y pd px S0 k 2) (rsO y pq bn bw 0) (rsO y pq bn bw 1) (rsO y pq bn bw 2) (pd 0) (pd 1) (pd 2) (px 0) (px 1) (px 2) (nI X) hcf0 hcf1 hcf2 hpc0 hpc1 (ht 0 (by decide)) hS.2.2.1 hS.2.2.2.1 hS.2.2.2.2.1 hS.2.2.2.2.2.1 hS.2.2.2.2.2.2 (hoc 0) (hP.1 0 (by decide)) (hP.2 0 (by decide)) (ht 1 (by decide)) hS.2.2.1 hS.2.2.2.1 hS.2.2.2.2.1 hS.2.2.2.2.2.1 hS.2.2.2.2.2.2 (hoc 1) (hP.1 1 (by decide)) (hP.2 1 (by decide)) (ht 2 (by decide)) hS.2.2.1 hS.2.2.2.1 hS.2.2.2.2.1 hS.2.2.2.2.2.1 hS.2.2.2.2.2.2 (hoc 2) (hP.1 2 (by decide)) (hP.2 2 (by decide)) hxp ww0 ww1 ww2).room (rm' := rm_move) (by decide) (by decide) (by decide) (by decide)).weaken (fun v w' hp => ?_)
          obtain ⟨rfl, rfl⟩ := hp
          refine ⟨rfl, _, bn, bw, c', _, g3, mu_go (by decide) (rdy 1 (by decide) ww1).1 g2, ?_⟩
          unfold ofB
          rw [← g1]
          rfl
        · by_cases ww3 : cnS (kSt y pd px S0 k 2) (rsO y pq bn bw 2) = 0
          · exfalso
            have e0 : rdO y pq pd px S0 k bn bw 0 = 0 := if_pos ww0
            have e1 : rdO y pq pd px S0 k bn bw 1 = 1 := if_neg ww1
            have e2 : rdO y pq pd px S0 k bn bw 2 = 0 := if_pos ww3
            have n0 : X ≠ cnt + 0 := fun q => ww2 (by rw [hc1, q]; rfl)
            omega
          · by_cases ww4 : (P.1 + 1) = nI X
            · obtain ⟨g1, c', g2, g3⟩ := go_on (pq := pq) hS hQ hI (i := 2) (by decide) (rdy 2 (by decide) ww3)
              refine ((cb_Office_go_5 l G h0 kp h2 ch cf P a0 a1 a2 (kSt y pd px S0 k 0) (kSt y pd px S0 k 1) (kSt y pd px S0 k 2) (rsO y pq bn bw 0) (rsO y pq bn bw 1) (rsO y pq bn bw 2) (pd 0) (pd 1) (pd 2) (px 0) (px 1) (px 2) (nI X) hcf0 hcf1 hcf2 hpc0 hpc1 (ht 0 (by decide)) hS.2.2.1 hS.2.2.2.1 hS.2.2.2.2.1 hS.2.2.2.2.2.1 hS.2.2.2.2.2.2 (hoc 0) (hP.1 0 (by decide)) (hP.2 0 (by decide)) (ht 1 (by decide)) hS.2.2.1 hS.2.2.2.1 hS.2.2.2.2.1 hS.2.2.2.2.2.1 hS.2.2.2.2.2.2 (hoc 1) (hP.1 1 (by decide)) (hP.2 1 (by decide)) (ht 2 (by decide)) hS.2.2.1 hS.2.2.2.1 hS.2.2.2.2.1 hS.2.2.2.2.2.1 hS.2.2.2.2.2.2 (hoc 2) (hP.1 2 (by decide)) (hP.2 2 (by decide)) hxp ww0 ww1 ww2 ww3 ww4).room (rm' := rm_move) (by decide) (by decide) (by decide) (by decide)).weaken (fun v w' hp => ?_)
              obtain ⟨rfl, rfl⟩ := hp
              refine ⟨rfl, _, bn, bw, c', _, g3, mu_go (by decide) (rdy 2 (by decide) ww3).1 g2, ?_⟩
              unfold ofB
              rw [← g1]
              rfl
            · exfalso
              have e0 : rdO y pq pd px S0 k bn bw 0 = 0 := if_pos ww0
              have e1 : rdO y pq pd px S0 k bn bw 1 = 1 := if_neg ww1
              have e2 : rdO y pq pd px S0 k bn bw 2 = 1 := if_neg ww3
              have n0 : X ≠ cnt + 0 := fun q => ww2 (by rw [hc1, q]; rfl)
              have n1 : X ≠ cnt + 1 := fun q => ww4 (by rw [hc1, q]; simp only [nI_succ])
              omega
    · by_cases ww1 : P.1 = nI X
      · obtain ⟨g1, c', g2, g3⟩ := go_on (pq := pq) hS hQ hI (i := 0) (by decide) (rdy 0 (by decide) ww0)
        refine ((cb_Office_go_14 l G h0 kp h2 ch cf P a0 a1 a2 (kSt y pd px S0 k 0) (kSt y pd px S0 k 1) (kSt y pd px S0 k 2) (rsO y pq bn bw 0) (rsO y pq bn bw 1) (rsO y pq bn bw 2) (pd 0) (pd 1) (pd 2) (px 0) (px 1) (px 2) (nI X) hcf0 hcf1 hcf2 hpc0 hpc1 (ht 0 (by decide)) hS.2.2.1 hS.2.2.2.1 hS.2.2.2.2.1 hS.2.2.2.2.2.1 hS.2.2.2.2.2.2 (hoc 0) (hP.1 0 (by decide)) (hP.2 0 (by decide)) (ht 1 (by decide)) hS.2.2.1 hS.2.2.2.1 hS.2.2.2.2.1 hS.2.2.2.2.2.1 hS.2.2.2.2.2.2 (hoc 1) (hP.1 1 (by decide)) (hP.2 1 (by decide)) (ht 2 (by decide)) hS.2.2.1 hS.2.2.2.1 hS.2.2.2.2.1 hS.2.2.2.2.2.1 hS.2.2.2.2.2.2 (hoc 2) (hP.1 2 (by decide)) (hP.2 2 (by decide)) hxp ww0 ww1).room (rm' := rm_move) (by decide) (by decide) (by decide) (by decide)).weaken (fun v w' hp => ?_)
        obtain ⟨rfl, rfl⟩ := hp
        refine ⟨rfl, _, bn, bw, c', _, g3, mu_go (by decide) (rdy 0 (by decide) ww0).1 g2, ?_⟩
        unfold ofB
        rw [← g1]
        rfl
      · by_cases ww2 : cnS (kSt y pd px S0 k 1) (rsO y pq bn bw 1) = 0
        · by_cases ww3 : cnS (kSt y pd px S0 k 2) (rsO y pq bn bw 2) = 0
          · exfalso
            have e0 : rdO y pq pd px S0 k bn bw 0 = 1 := if_neg ww0
            have e1 : rdO y pq pd px S0 k bn bw 1 = 0 := if_pos ww2
            have e2 : rdO y pq pd px S0 k bn bw 2 = 0 := if_pos ww3
            have n0 : X ≠ cnt + 0 := fun q => ww1 (by rw [hc1, q]; rfl)
            omega
          · by_cases ww4 : (P.1 + 1) = nI X
            · obtain ⟨g1, c', g2, g3⟩ := go_on (pq := pq) hS hQ hI (i := 2) (by decide) (rdy 2 (by decide) ww3)
              refine ((cb_Office_go_9 l G h0 kp h2 ch cf P a0 a1 a2 (kSt y pd px S0 k 0) (kSt y pd px S0 k 1) (kSt y pd px S0 k 2) (rsO y pq bn bw 0) (rsO y pq bn bw 1) (rsO y pq bn bw 2) (pd 0) (pd 1) (pd 2) (px 0) (px 1) (px 2) (nI X) hcf0 hcf1 hcf2 hpc0 hpc1 (ht 0 (by decide)) hS.2.2.1 hS.2.2.2.1 hS.2.2.2.2.1 hS.2.2.2.2.2.1 hS.2.2.2.2.2.2 (hoc 0) (hP.1 0 (by decide)) (hP.2 0 (by decide)) (ht 1 (by decide)) hS.2.2.1 hS.2.2.2.1 hS.2.2.2.2.1 hS.2.2.2.2.2.1 hS.2.2.2.2.2.2 (hoc 1) (hP.1 1 (by decide)) (hP.2 1 (by decide)) (ht 2 (by decide)) hS.2.2.1 hS.2.2.2.1 hS.2.2.2.2.1 hS.2.2.2.2.2.1 hS.2.2.2.2.2.2 (hoc 2) (hP.1 2 (by decide)) (hP.2 2 (by decide)) hxp ww0 ww1 ww2 ww3 ww4).room (rm' := rm_move) (by decide) (by decide) (by decide) (by decide)).weaken (fun v w' hp => ?_)
              obtain ⟨rfl, rfl⟩ := hp
              refine ⟨rfl, _, bn, bw, c', _, g3, mu_go (by decide) (rdy 2 (by decide) ww3).1 g2, ?_⟩
              unfold ofB
              rw [← g1]
              rfl
            · exfalso
              have e0 : rdO y pq pd px S0 k bn bw 0 = 1 := if_neg ww0
              have e1 : rdO y pq pd px S0 k bn bw 1 = 0 := if_pos ww2
              have e2 : rdO y pq pd px S0 k bn bw 2 = 1 := if_neg ww3
              have n0 : X ≠ cnt + 0 := fun q => ww1 (by rw [hc1, q]; rfl)
              have n1 : X ≠ cnt + 1 := fun q => ww4 (by rw [hc1, q]; simp only [nI_succ])
              omega
        · by_cases ww3 : (P.1 + 1) = nI X
          · obtain ⟨g1, c', g2, g3⟩ := go_on (pq := pq) hS hQ hI (i := 1) (by decide) (rdy 1 (by decide) ww2)
            refine ((cb_Office_go_13 l G h0 kp h2 ch cf P a0 a1 a2 (kSt y pd px S0 k 0) (kSt y pd px S0 k 1) (kSt y pd px S0 k 2) (rsO y pq bn bw 0) (rsO y pq bn bw 1) (rsO y pq bn bw 2) (pd 0) (pd 1) (pd 2) (px 0) (px 1) (px 2) (nI X) hcf0 hcf1 hcf2 hpc0 hpc1 (ht 0 (by decide)) hS.2.2.1 hS.2.2.2.1 hS.2.2.2.2.1 hS.2.2.2.2.2.1 hS.2.2.2.2.2.2 (hoc 0) (hP.1 0 (by decide)) (hP.2 0 (by decide)) (ht 1 (by decide)) hS.2.2.1 hS.2.2.2.1 hS.2.2.2.2.1 hS.2.2.2.2.2.1 hS.2.2.2.2.2.2 (hoc 1) (hP.1 1 (by decide)) (hP.2 1 (by decide)) (ht 2 (by decide)) hS.2.2.1 hS.2.2.2.1 hS.2.2.2.2.1 hS.2.2.2.2.2.1 hS.2.2.2.2.2.2 (hoc 2) (hP.1 2 (by decide)) (hP.2 2 (by decide)) hxp ww0 ww1 ww2 ww3).room (rm' := rm_move) (by decide) (by decide) (by decide) (by decide)).weaken (fun v w' hp => ?_)
            obtain ⟨rfl, rfl⟩ := hp
            refine ⟨rfl, _, bn, bw, c', _, g3, mu_go (by decide) (rdy 1 (by decide) ww2).1 g2, ?_⟩
            unfold ofB
            rw [← g1]
            rfl
          · by_cases ww4 : cnS (kSt y pd px S0 k 2) (rsO y pq bn bw 2) = 0
            · exfalso
              have e0 : rdO y pq pd px S0 k bn bw 0 = 1 := if_neg ww0
              have e1 : rdO y pq pd px S0 k bn bw 1 = 1 := if_neg ww2
              have e2 : rdO y pq pd px S0 k bn bw 2 = 0 := if_pos ww4
              have n0 : X ≠ cnt + 0 := fun q => ww1 (by rw [hc1, q]; rfl)
              have n1 : X ≠ cnt + 1 := fun q => ww3 (by rw [hc1, q]; simp only [nI_succ])
              omega
            · by_cases ww5 : ((P.1 + 1) + 1) = nI X
              · obtain ⟨g1, c', g2, g3⟩ := go_on (pq := pq) hS hQ hI (i := 2) (by decide) (rdy 2 (by decide) ww4)
                refine ((cb_Office_go_12 l G h0 kp h2 ch cf P a0 a1 a2 (kSt y pd px S0 k 0) (kSt y pd px S0 k 1) (kSt y pd px S0 k 2) (rsO y pq bn bw 0) (rsO y pq bn bw 1) (rsO y pq bn bw 2) (pd 0) (pd 1) (pd 2) (px 0) (px 1) (px 2) (nI X) hcf0 hcf1 hcf2 hpc0 hpc1 (ht 0 (by decide)) hS.2.2.1 hS.2.2.2.1 hS.2.2.2.2.1 hS.2.2.2.2.2.1 hS.2.2.2.2.2.2 (hoc 0) (hP.1 0 (by decide)) (hP.2 0 (by decide)) (ht 1 (by decide)) hS.2.2.1 hS.2.2.2.1 hS.2.2.2.2.1 hS.2.2.2.2.2.1 hS.2.2.2.2.2.2 (hoc 1) (hP.1 1 (by decide)) (hP.2 1 (by decide)) (ht 2 (by decide)) hS.2.2.1 hS.2.2.2.1 hS.2.2.2.2.1 hS.2.2.2.2.2.1 hS.2.2.2.2.2.2 (hoc 2) (hP.1 2 (by decide)) (hP.2 2 (by decide)) hxp ww0 ww1 ww2 ww3 ww4 ww5).room (rm' := rm_move) (by decide) (by decide) (by decide) (by decide)).weaken (fun v w' hp => ?_)
                obtain ⟨rfl, rfl⟩ := hp
                refine ⟨rfl, _, bn, bw, c', _, g3, mu_go (by decide) (rdy 2 (by decide) ww4).1 g2, ?_⟩
                unfold ofB
                rw [← g1]
                rfl
              · exfalso
                have e0 : rdO y pq pd px S0 k bn bw 0 = 1 := if_neg ww0
                have e1 : rdO y pq pd px S0 k bn bw 1 = 1 := if_neg ww2
                have e2 : rdO y pq pd px S0 k bn bw 2 = 1 := if_neg ww4
                have n0 : X ≠ cnt + 0 := fun q => ww1 (by rw [hc1, q]; rfl)
                have n1 : X ≠ cnt + 1 := fun q => ww3 (by rw [hc1, q]; simp only [nI_succ])
                have n2 : X ≠ cnt + 2 := fun q => ww5 (by rw [hc1, q]; simp only [nI_succ])
                omega
