/-! ===== what a night that went by tells ===== -/
theorem cmB_q {c r m : bM} (hS : RelS c r) {q : Nat} (ni : NI c (q / 30) ((q % 30 : Nat) : Int) (c 1 8) (c 1 9) 180 m) (k : Nat) (hk : k < nRw c) : cmB c m k = (!decide (c 18 k = 3) && !rLet c q k) := by
  have hR16 := RelS_rrows hS
  have k16 : k < 16 := by unfold nRw at hk; omega
  have rk := RelS_rkind hS k k16
  have rk1 := RelS_rkind1 hS k k16 (by unfold nRw at hk; omega)
  have pl := RelS_rplace hS k k16
  unfold cmB
  by_cases q3 : c 18 k = 3
  · simp [q3]
  · by_cases q1 : c 18 k = 1
    · have sE : shw c m k = oM3 (qDeep c q (c 19 k).toNat (c 23 k)) := by
        unfold shw
        rw [if_pos q1]
        exact NI_clock ni k hk q1
      rw [sE]
      unfold rLet
      rw [if_pos q1]
      cases qDeep c q (c 19 k).toNat (c 23 k) with
      | none => simp [oM3]
      | some x =>
        have hx : ¬ (x : Int) = -3 := by omega
        show (!decide (c 18 k = 3) && (decide ((x : Int) = -3) || !decide (c 21 k ≤ (x : Int) ∧ (x : Int) ≤ c 22 k))) = (!decide (c 18 k = 3) && !decide (c 21 k ≤ (x : Int) ∧ (x : Int) ≤ c 22 k))
        rw [decide_eq_false hx, Bool.false_or]
    · have q2 : c 18 k = 2 := by omega
      have sE : shw c m k = qMax c q (c 19 k).toNat := by
        unfold shw
        rw [if_neg q1]
        exact NI_peak ni _ (by omega)
      have nn : 0 ≤ qMax c q (c 19 k).toNat := mxx_nn _ _
      have hx : ¬ qMax c q (c 19 k).toNat = -3 := by omega
      rw [sE]
      unfold rLet
      rw [if_neg q1, if_pos q2]
      simp [hx]
theorem fallen_q {c m : bM} {q : Nat} (ni : NI c (q / 30) ((q % 30 : Nat) : Int) (c 1 8) (c 1 9) 180 m) (h : Nat) (hh : h < nHs c) (h10 : h < 10) : (!decide (m 98 h = -3)) = qFell c q h := by
  rw [NI_fell ni h h10, if_pos hh]
  show _ = decide (0 ≤ (nS c (q / 30) ((q % 30 : Nat) : Int) (c 1 8) (c 1 9) 180).2.2.2 h)
  rw [nS_fo, if_pos hh]
  cases ff (fun j => decide (c 7 h ≤ nD c (q / 30) ((q % 30 : Nat) : Int) (c 1 8) (c 1 9) j (c 6 h).toNat)) 180 with
  | none => rfl
  | some j => simp [oM3, oM1]
theorem rest_q {c : bM} {q t : Nat} : tPos c (nD c (q / 30) ((q % 30 : Nat) : Int) (c 1 8) (c 1 9)) (nS c (q / 30) ((q % 30 : Nat) : Int) (c 1 8) (c 1 9) 180).2.2.2 180 t = qRest c q t := by
  unfold tPos qRest
  have e : (nS c (q / 30) ((q % 30 : Nat) : Int) (c 1 8) (c 1 9) 180).2.2.2 (tHm c t) = qF c q (tHm c t) := rfl
  rw [e]
  unfold qFell
  simp only [decide_eq_true_eq]
  rfl
