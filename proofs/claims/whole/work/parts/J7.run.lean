/-! ===== a system that grows: a constructor's whole run, to a depth of calls ===== -/
def gstep (df : gDF) (F : gCI) (cal : gcl) (ls : bLs) (pc : Nat) (st : List bV) (sy : gS) (lg : gLg) (k : Nat × Nat) : Option gSt := match decode F.1.2.1 pc with
  | .ok (.aload_n i, 1) => s_ald ls i 1 pc st sy lg k
  | .ok (.aload i, 2) => s_ald ls i 2 pc st sy lg k
  | .ok (.iconst n, 1) => s_con n 1 pc st sy lg k
  | .ok (.bipush n, 2) => s_con n 2 pc st sy lg k
  | .ok (.sipush n, 3) => s_con n 3 pc st sy lg k
  | .ok (.dup, 1) => s_dup pc st sy lg k
  | .ok (.newarray t, 2) => s_arr t F.2.2.2.2.2.2 pc st sy lg k
  | .ok (.iastore, 1) => s_ast pc st sy lg k
  | .ok (.putfield idx, 3) => s_put F.2.2.1 idx pc st sy lg k
  | .ok (.getfield idx, 3) => s_get F.2.2.1 idx pc st sy lg k
  | .ok (.new idx, 3) => s_new df F.2.2.2.1 F.2.2.2.2.2.2 idx pc st sy lg k
  | .ok (.invokespecial idx, 3) => s_spc cal F.2.1 F.2.2.2.2.1 F.2.2.2.2.2.2 idx pc st sy lg k
  | .ok (.invokestatic idx, 3) => if k.1 ≤ F.2.2.2.2.2.2.1 ∧ k.2 ≤ F.2.2.2.2.2.2.2 then s_fil F.2.2.2.2.2.1 idx pc st sy lg k else none
  | _ => none
def gKOK (nf : Nat → MethodName × ByteArray × Nat) (df : gDF) (F : gCI) : Prop := (∀ x ∈ F.2.2.1, gFw F.1.1 x.1 x.2.1 x.2.2.1 x.2.2.2) ∧ (∀ x ∈ F.2.2.2.1, gNw df F.1.1 x.1 x.2) ∧ (∀ x ∈ F.2.2.2.2.1, gCw nf F.1.1 x.1 x.2.1 x.2.2) ∧ gOw F.1.1 F.2.1 ∧ (∀ x ∈ F.2.2.2.2.2.1, gFi F.1.1 x) ∧ gAw
theorem gstep_ok {nf : Nat → MethodName × ByteArray × Nat} {df : gDF} {F : gCI} {d : Nat} {cal : gcl} {j : gJ} {pc : Nat} {ls : bLs} {st : List bV} {sy : gS} {lg : gLg} {k : Nat × Nat} {r : gSt} (hF : gKOK nf df F) (hcal : gcOk nf d cal) (hj : j.1.cells = F.2.2.2.2.2.2.1 ∧ j.1.slots = F.2.2.2.2.2.2.2) (hR : d + 2 ≤ j.1.frames ∧ 100 * (d + 1) ≤ j.1.locals) (h : gstep df F cal ls pc st sy lg k = some r) (kk : gZ F.1.1 F.1.2.1 F.1.2.2 (none, true) j r.1 ls r.2.1 r.2.2.1 (wrs r.2.2.2.1 g0) r.2.2.2.2) : gZ F.1.1 F.1.2.1 F.1.2.2 (none, true) j pc ls st sy (wrs lg g0) k := by
  obtain ⟨f1, f2, f3, f4, f5, f6⟩ := hF
  obtain ⟨pc', st', sy', lg', k'⟩ := r
  unfold gstep at h
  split at h
  · rename_i hd; exact s_aldn_ok hd h kk
  · rename_i hd; exact s_ald_ok hd h kk
  · rename_i hd; exact s_con1_ok hd h kk
  · rename_i hd; exact s_con2_ok hd h kk
  · rename_i hd; exact s_con3_ok hd h kk
  · rename_i hd; exact s_dup_ok hd h kk
  · rename_i hd; exact s_arr_ok f6 hj hd h kk
  · rename_i hd; exact s_ast_ok hd h kk
  · rename_i hd; exact s_put_ok rfl f1 hd h kk
  · rename_i hd; exact s_get_ok f1 hd h kk
  · rename_i hd; exact s_new_ok f2 hj hd h kk
  · rename_i hd; exact s_spc_ok f4 f3 hcal hj hR hd h kk
  · rename_i hd
    obtain ⟨h1, h2⟩ := gd_of h
    exact s_fil_ok f5 ⟨by omega, by omega⟩ hR hd h2 kk
  · cases h
def grun (df : gDF) (F : gCI) (cal : gcl) (ls : bLs) : Nat → Nat → List bV → gS → gLg → Nat × Nat → Option (gS × gLg × (Nat × Nat))
  | 0, _, _, _, _, _ => none
  | n + 1, pc, st, sy, lg, k => if decode F.1.2.1 pc = .ok (.return_, 1) then (match st with
      | [] => some (sy, lg, k)
      | _ => none)
    else (gstep df F cal ls pc st sy lg k).bind fun r => grun df F cal ls n r.1 r.2.1 r.2.2.1 r.2.2.2.1 r.2.2.2.2
theorem grun_ok {nf : Nat → MethodName × ByteArray × Nat} {df : gDF} {F : gCI} {d : Nat} {cal : gcl} {ls : bLs} {sy2 : gS} {lg2 : gLg} (hF : gKOK nf df F) (hcal : gcOk nf d cal) : ∀ (n pc : Nat) (st : List bV) (sy : gS) (lg : gLg) (k : Nat × Nat), grun df F cal ls n pc st sy lg k = some (sy2, lg2, F.2.2.2.2.2.2) → gZ F.1.1 F.1.2.1 F.1.2.2 (none, true) (gjm (gRm d F.2.2.2.2.2.2) sy2 (wrs lg2 g0) F.2.2.2.2.2.2) pc ls st sy (wrs lg g0) k
  | 0, _, _, _, _, _, h => by cases h
  | n + 1, pc, st, sy, lg, k, h => by
    unfold grun at h
    split at h
    · rename_i hd
      split at h
      · cases h
        exact gz_ret rfl hd
      · cases h
    · obtain ⟨r, h1, h2⟩ := bb_of h
      exact gstep_ok hF hcal ⟨rfl, rfl⟩ ⟨Nat.le_refl _, Nat.le_refl _⟩ h1 (grun_ok hF hcal n _ _ _ _ _ h2)
def gcD (df : gDF) (Fs : Nat → gCI) : Nat → gcl
  | 0 => fun _ _ _ _ => none
  | d + 1 => fun f av sy lg => (grun df (Fs f) (gcD df Fs d) (bls av ++ List.replicate ((Fs f).1.2.2 - (bls av).length) none) 500 0 [] sy lg (0, 0)).bind fun r => if r.2.2 = (Fs f).2.2.2.2.2.2 ∧ (bls av).length ≤ (Fs f).1.2.2 ∧ (Fs f).1.2.2 ≤ 30 ∧ sy.length ≤ 204 ∧ r.1.length = sy.length + r.2.2.1 ∧ r.1.length ≤ 204 ∧ lg.all (fun q => decide (q.1 < sy.length)) = true ∧ r.2.1.all (fun q => decide (q.1 < r.1.length)) = true ∧ av.all (fun v => v.isRight && v.elim (fun _ => false) (fun w => w.isRight)) = true then some r else none
theorem gcD_ok {nf : Nat → MethodName × ByteArray × Nat} {df : gDF} {Fs : Nat → gCI} (H : ∀ f, gKOK nf df (Fs f) ∧ plainName (nf f).1.cls = true ∧ (nf f).1.name = "<init>" ∧ (Fs f).1 = ((nf f).1.cls, (nf f).2)) : ∀ d, gcOk nf d (gcD df Fs d)
  | 0 => by intro f av sy lg r h; cases h
  | d + 1 => by
    intro f av sy lg r h
    obtain ⟨⟨sy2, lg2, k2⟩, h1, h2⟩ := bb_of h
    obtain ⟨⟨a1, a2, a3, a4, a5, a6, a7, a8, a9⟩, h3⟩ := gd_of h2
    cases h3
    obtain ⟨b1, b2, b3, b4⟩ := H f
    have a1 : k2 = (Fs f).2.2.2.2.2.2 := a1
    subst a1
    have c1 : (Fs f).1.1 = (nf f).1.cls := by rw [b4]
    have c2 : (Fs f).1.2.1 = (nf f).2.1 := by rw [b4]
    have c3 : (Fs f).1.2.2 = (nf f).2.2 := by rw [b4]
    have hrun := grun_ok b1 (gcD_ok H d) 500 0 [] sy lg (0, 0) h1
    rw [c1, c2, c3] at hrun
    rw [c3] at a2 a3
    refine ⟨d, Nat.le_refl _, a3, ?_, a5, a6, wrs_far _ lg2 g0 a8 (fun _ _ _ => rfl)⟩
    refine gCal_of (b := true) b2 (fun _ => b3) a2 a4 (wrs_far _ lg g0 a7 (fun _ _ _ => rfl)) (fun v hv => ?_) hrun
    have h4 := List.all_eq_true.mp a9 v hv
    match v, h4 with
    | .inr (.inr z), _ => trivial
