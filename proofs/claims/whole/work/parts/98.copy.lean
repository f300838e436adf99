/-! ===== what is kept: place by place ===== -/
theorem RelV_pt {c r c1 r1 : bM} (h : RelV c r) (e2 : ∀ k, k < 12 → c1 2 k = c 2 k) (e3 : ∀ k, k < 12 → c1 3 k = c 3 k) (e4 : ∀ k, k < 24 → c1 4 k = c 4 k) (e5 : ∀ k, k < 3 → c1 5 k = c 5 k) (e6 : ∀ k, k < 10 → c1 6 k = c 6 k) (e7 : ∀ k, k < 10 → c1 7 k = c 7 k) (e8 : ∀ k, k < 10 → c1 8 k = c 8 k) (w1_7 : c1 1 7 = c 1 7) (w1_8 : c1 1 8 = c 1 8) (w1_9 : c1 1 9 = c 1 9) (w1_10 : c1 1 10 = c 1 10) (f134 : ∀ k, k < 12 → r1 134 k = r 134 k) (f135 : ∀ k, k < 12 → r1 135 k = r 135 k) (f136 : ∀ k, k < 3 → r1 136 k = r 136 k) (f137 : ∀ k, k < 24 → r1 137 k = r 137 k) (f138 : ∀ k, k < 10 → r1 138 k = r 138 k) (f139 : ∀ k, k < 10 → r1 139 k = r 139 k) (f140 : ∀ k, k < 10 → r1 140 k = r 140 k) : RelV c1 r1 := by
  refine ⟨?_, ?_, ?_, ?_, ?_, ?_, ?_, ?_, ?_, ?_, ?_, ?_, ?_, ?_, ?_, ?_, ?_, ?_, ?_⟩
  · intro k hk
    simp (disch := omega) only [e2, e3, e4, e5, e6, e7, e8, w1_7, w1_8, w1_9, w1_10, f134, f135, f136, f137, f138, f139, f140]
    exact RelV_width h k hk
  · intro k hk
    simp (disch := omega) only [e2, e3, e4, e5, e6, e7, e8, w1_7, w1_8, w1_9, w1_10, f134, f135, f136, f137, f138, f139, f140]
    exact RelV_rough h k hk
  · intro k hk
    simp (disch := omega) only [e2, e3, e4, e5, e6, e7, e8, w1_7, w1_8, w1_9, w1_10, f134, f135, f136, f137, f138, f139, f140]
    exact RelV_tabl h k hk
  · intro k hk
    simp (disch := omega) only [e2, e3, e4, e5, e6, e7, e8, w1_7, w1_8, w1_9, w1_10, f134, f135, f136, f137, f138, f139, f140]
    exact RelV_table h k hk
  · intro k hk
    simp (disch := omega) only [e2, e3, e4, e5, e6, e7, e8, w1_7, w1_8, w1_9, w1_10, f134, f135, f136, f137, f138, f139, f140]
    exact RelV_hAt h k hk
  · intro k hk
    simp (disch := omega) only [e2, e3, e4, e5, e6, e7, e8, w1_7, w1_8, w1_9, w1_10, f134, f135, f136, f137, f138, f139, f140]
    exact RelV_str h k hk
  · intro k hk
    simp (disch := omega) only [e2, e3, e4, e5, e6, e7, e8, w1_7, w1_8, w1_9, w1_10, f134, f135, f136, f137, f138, f139, f140]
    exact RelV_room h k hk
  · intro k hk
    simp (disch := omega) only [e2, e3, e4, e5, e6, e7, e8, w1_7, w1_8, w1_9, w1_10, f134, f135, f136, f137, f138, f139, f140]
    exact RelV_rwidth h k hk
  · intro k hk
    simp (disch := omega) only [e2, e3, e4, e5, e6, e7, e8, w1_7, w1_8, w1_9, w1_10, f134, f135, f136, f137, f138, f139, f140]
    exact RelV_rrough h k hk
  · intro k hk
    simp (disch := omega) only [e2, e3, e4, e5, e6, e7, e8, w1_7, w1_8, w1_9, w1_10, f134, f135, f136, f137, f138, f139, f140]
    exact RelV_rtabl h k hk
  · intro k hk
    simp (disch := omega) only [e2, e3, e4, e5, e6, e7, e8, w1_7, w1_8, w1_9, w1_10, f134, f135, f136, f137, f138, f139, f140]
    exact RelV_rtable h k hk
  · intro k hk
    simp (disch := omega) only [e2, e3, e4, e5, e6, e7, e8, w1_7, w1_8, w1_9, w1_10, f134, f135, f136, f137, f138, f139, f140]
    exact RelV_rhAt h k hk
  · intro k hk
    simp (disch := omega) only [e2, e3, e4, e5, e6, e7, e8, w1_7, w1_8, w1_9, w1_10, f134, f135, f136, f137, f138, f139, f140]
    exact RelV_rstr h k hk
  · intro k hk h2
    simp (disch := omega) only [e2, e3, e4, e5, e6, e7, e8, w1_7, w1_8, w1_9, w1_10, f134, f135, f136, f137, f138, f139, f140] at h2 ⊢
    exact RelV_rstr1 h k hk h2
  · intro k hk
    simp (disch := omega) only [e2, e3, e4, e5, e6, e7, e8, w1_7, w1_8, w1_9, w1_10, f134, f135, f136, f137, f138, f139, f140]
    exact RelV_rroom h k hk
  · simp only [w1_7, w1_8, w1_9, w1_10]
    exact RelV_rwater h
  · simp only [w1_7, w1_8, w1_9, w1_10]
    exact RelV_rgate h
  · simp only [w1_7, w1_8, w1_9, w1_10]
    exact RelV_rgon h
  · simp only [w1_7, w1_8, w1_9, w1_10]
    exact RelV_rhouses h
theorem RelS_pt {c r c1 r1 : bM} (h : RelS c r) (e18 : ∀ k, k < 16 → c1 18 k = c 18 k) (e19 : ∀ k, k < 16 → c1 19 k = c 19 k) (e20 : ∀ k, k < 16 → c1 20 k = c 20 k) (e21 : ∀ k, k < 16 → c1 21 k = c 21 k) (e22 : ∀ k, k < 16 → c1 22 k = c 22 k) (e23 : ∀ k, k < 16 → c1 23 k = c 23 k) (e24 : ∀ k, k < 16 → c1 24 k = c 24 k) (e25 : ∀ k, k < 4 → c1 25 k = c 25 k) (e26 : ∀ k, k < 4 → c1 26 k = c 26 k) (w17_9 : c1 17 9 = c 17 9) (w17_10 : c1 17 10 = c 17 10) (f141 : ∀ k, k < 16 → r1 141 k = r 141 k) (f142 : ∀ k, k < 16 → r1 142 k = r 142 k) (f143 : ∀ k, k < 16 → r1 143 k = r 143 k) (f144 : ∀ k, k < 16 → r1 144 k = r 144 k) (f145 : ∀ k, k < 16 → r1 145 k = r 145 k) (f146 : ∀ k, k < 16 → r1 146 k = r 146 k) (f147 : ∀ k, k < 16 → r1 147 k = r 147 k) (f148 : ∀ k, k < 4 → r1 148 k = r 148 k) (f149 : ∀ k, k < 4 → r1 149 k = r 149 k) : RelS c1 r1 := by
  refine ⟨?_, ?_, ?_, ?_, ?_, ?_, ?_, ?_, ?_, ?_, ?_, ?_, ?_, ?_, ?_, ?_, ?_, ?_⟩
  · intro k hk
    simp (disch := omega) only [e18, e19, e20, e21, e22, e23, e24, e25, e26, w17_9, w17_10, f141, f142, f143, f144, f145, f146, f147, f148, f149]
    exact RelS_kind h k hk
  · intro k hk
    simp (disch := omega) only [e18, e19, e20, e21, e22, e23, e24, e25, e26, w17_9, w17_10, f141, f142, f143, f144, f145, f146, f147, f148, f149]
    exact RelS_place h k hk
  · intro k hk
    simp (disch := omega) only [e18, e19, e20, e21, e22, e23, e24, e25, e26, w17_9, w17_10, f141, f142, f143, f144, f145, f146, f147, f148, f149]
    exact RelS_main h k hk
  · intro k hk
    simp (disch := omega) only [e18, e19, e20, e21, e22, e23, e24, e25, e26, w17_9, w17_10, f141, f142, f143, f144, f145, f146, f147, f148, f149]
    exact RelS_torn h k hk
  · intro k hk
    simp (disch := omega) only [e18, e19, e20, e21, e22, e23, e24, e25, e26, w17_9, w17_10, f141, f142, f143, f144, f145, f146, f147, f148, f149]
    exact RelS_side h k hk
  · intro k hk
    simp (disch := omega) only [e18, e19, e20, e21, e22, e23, e24, e25, e26, w17_9, w17_10, f141, f142, f143, f144, f145, f146, f147, f148, f149]
    exact RelS_doub h k hk
  · intro k hk
    simp (disch := omega) only [e18, e19, e20, e21, e22, e23, e24, e25, e26, w17_9, w17_10, f141, f142, f143, f144, f145, f146, f147, f148, f149]
    exact RelS_rkind h k hk
  · intro k hk h2
    simp (disch := omega) only [e18, e19, e20, e21, e22, e23, e24, e25, e26, w17_9, w17_10, f141, f142, f143, f144, f145, f146, f147, f148, f149] at h2 ⊢
    exact RelS_rkind1 h k hk h2
  · intro k hk
    simp (disch := omega) only [e18, e19, e20, e21, e22, e23, e24, e25, e26, w17_9, w17_10, f141, f142, f143, f144, f145, f146, f147, f148, f149]
    exact RelS_rplace h k hk
  · intro k hk h2
    simp (disch := omega) only [e18, e19, e20, e21, e22, e23, e24, e25, e26, w17_9, w17_10, f141, f142, f143, f144, f145, f146, f147, f148, f149] at h2 ⊢
    exact RelS_rplace3 h k hk h2
  · intro k hk
    simp (disch := omega) only [e18, e19, e20, e21, e22, e23, e24, e25, e26, w17_9, w17_10, f141, f142, f143, f144, f145, f146, f147, f148, f149]
    exact RelS_rmain h k hk
  · intro k hk h2
    simp (disch := omega) only [e18, e19, e20, e21, e22, e23, e24, e25, e26, w17_9, w17_10, f141, f142, f143, f144, f145, f146, f147, f148, f149] at h2 ⊢
    exact RelS_rclk h k hk h2
  · intro k hk h2
    simp (disch := omega) only [e18, e19, e20, e21, e22, e23, e24, e25, e26, w17_9, w17_10, f141, f142, f143, f144, f145, f146, f147, f148, f149] at h2 ⊢
    exact RelS_rmrk h k hk h2
  · intro k hk h2
    simp (disch := omega) only [e18, e19, e20, e21, e22, e23, e24, e25, e26, w17_9, w17_10, f141, f142, f143, f144, f145, f146, f147, f148, f149] at h2 ⊢
    exact RelS_rwrd h k hk h2
  · simp only [w17_9, w17_10]
    exact RelS_rrows h
  · intro k hk
    simp (disch := omega) only [e18, e19, e20, e21, e22, e23, e24, e25, e26, w17_9, w17_10, f141, f142, f143, f144, f145, f146, f147, f148, f149]
    exact RelS_rtorn h k hk
  · intro k hk
    simp (disch := omega) only [e18, e19, e20, e21, e22, e23, e24, e25, e26, w17_9, w17_10, f141, f142, f143, f144, f145, f146, f147, f148, f149]
    exact RelS_rdoub h k hk
  · have hr := RelS_rrows h
    have e : nRw c1 = nRw c := by unfold nRw; rw [w17_9]
    rw [w17_10, e, RelS_words h]
    congr 1
    exact bst_congr (fun k hk => by rw [e18 k (by unfold nRw at hk; omega)])
theorem RelF_pt {c r c1 r1 : bM} (h : RelF c r) (e38 : ∀ k, k < 16 → c1 38 k = c 38 k) (e39 : ∀ k, k < 16 → c1 39 k = c 39 k) (e40 : ∀ k, k < 16 → c1 40 k = c 40 k) (e41 : ∀ k, k < 16 → c1 41 k = c 41 k) (e42 : ∀ k, k < 16 → c1 42 k = c 42 k) (e43 : ∀ k, k < 16 → c1 43 k = c 43 k) (e44 : ∀ k, k < 12 → c1 44 k = c 44 k) (e45 : ∀ k, k < 12 → c1 45 k = c 45 k) (e46 : ∀ k, k < 12 → c1 46 k = c 46 k) (e47 : ∀ k, k < 12 → c1 47 k = c 47 k) (e48 : ∀ k, k < 12 → c1 48 k = c 48 k) (e49 : ∀ k, k < 12 → c1 49 k = c 49 k) (w37_12 : c1 37 12 = c 37 12) (w37_13 : c1 37 13 = c 37 13) (w37_14 : c1 37 14 = c 37 14) (w37_15 : c1 37 15 = c 37 15) (f150 : ∀ k, k < 16 → r1 150 k = r 150 k) (f151 : ∀ k, k < 16 → r1 151 k = r 151 k) (f152 : ∀ k, k < 16 → r1 152 k = r 152 k) (f153 : ∀ k, k < 16 → r1 153 k = r 153 k) (f154 : ∀ k, k < 16 → r1 154 k = r 154 k) (f155 : ∀ k, k < 16 → r1 155 k = r 155 k) (f156 : ∀ k, k < 12 → r1 156 k = r 156 k) (f157 : ∀ k, k < 12 → r1 157 k = r 157 k) (f158 : ∀ k, k < 12 → r1 158 k = r 158 k) (f159 : ∀ k, k < 12 → r1 159 k = r 159 k) (f160 : ∀ k, k < 12 → r1 160 k = r 160 k) (f161 : ∀ k, k < 12 → r1 161 k = r 161 k) : RelF c1 r1 := by
  refine ⟨?_, ?_, ?_, ?_, ?_, ?_, ?_, ?_, ?_, ?_, ?_, ?_, ?_, ?_, ?_, ?_, ?_, ?_, ?_, ?_, ?_, ?_, ?_, ?_, ?_, ?_, ?_, ?_, ?_⟩
  · intro k hk
    simp (disch := omega) only [e38, e39, e40, e41, e42, e43, e44, e45, e46, e47, e48, e49, w37_12, w37_13, w37_14, w37_15, f150, f151, f152, f153, f154, f155, f156, f157, f158, f159, f160, f161]
    exact RelF_kin h k hk
  · intro k hk
    simp (disch := omega) only [e38, e39, e40, e41, e42, e43, e44, e45, e46, e47, e48, e49, w37_12, w37_13, w37_14, w37_15, f150, f151, f152, f153, f154, f155, f156, f157, f158, f159, f160, f161]
    exact RelF_home h k hk
  · intro k hk
    simp (disch := omega) only [e38, e39, e40, e41, e42, e43, e44, e45, e46, e47, e48, e49, w37_12, w37_13, w37_14, w37_15, f150, f151, f152, f153, f154, f155, f156, f157, f158, f159, f160, f161]
    exact RelF_trade h k hk
  · intro k hk
    simp (disch := omega) only [e38, e39, e40, e41, e42, e43, e44, e45, e46, e47, e48, e49, w37_12, w37_13, w37_14, w37_15, f150, f151, f152, f153, f154, f155, f156, f157, f158, f159, f160, f161]
    exact RelF_safe h k hk
  · intro k hk
    simp (disch := omega) only [e38, e39, e40, e41, e42, e43, e44, e45, e46, e47, e48, e49, w37_12, w37_13, w37_14, w37_15, f150, f151, f152, f153, f154, f155, f156, f157, f158, f159, f160, f161]
    exact RelF_nkin h k hk
  · intro k hk
    simp (disch := omega) only [e38, e39, e40, e41, e42, e43, e44, e45, e46, e47, e48, e49, w37_12, w37_13, w37_14, w37_15, f150, f151, f152, f153, f154, f155, f156, f157, f158, f159, f160, f161]
    exact RelF_nhome h k hk
  · intro k hk
    simp (disch := omega) only [e38, e39, e40, e41, e42, e43, e44, e45, e46, e47, e48, e49, w37_12, w37_13, w37_14, w37_15, f150, f151, f152, f153, f154, f155, f156, f157, f158, f159, f160, f161]
    exact RelF_tof h k hk
  · intro k hk
    simp (disch := omega) only [e38, e39, e40, e41, e42, e43, e44, e45, e46, e47, e48, e49, w37_12, w37_13, w37_14, w37_15, f150, f151, f152, f153, f154, f155, f156, f157, f158, f159, f160, f161]
    exact RelF_sort h k hk
  · intro k hk
    simp (disch := omega) only [e38, e39, e40, e41, e42, e43, e44, e45, e46, e47, e48, e49, w37_12, w37_13, w37_14, w37_15, f150, f151, f152, f153, f154, f155, f156, f157, f158, f159, f160, f161]
    exact RelF_wgt h k hk
  · intro k hk
    simp (disch := omega) only [e38, e39, e40, e41, e42, e43, e44, e45, e46, e47, e48, e49, w37_12, w37_13, w37_14, w37_15, f150, f151, f152, f153, f154, f155, f156, f157, f158, f159, f160, f161]
    exact RelF_worth h k hk
  · intro k hk
    simp (disch := omega) only [e38, e39, e40, e41, e42, e43, e44, e45, e46, e47, e48, e49, w37_12, w37_13, w37_14, w37_15, f150, f151, f152, f153, f154, f155, f156, f157, f158, f159, f160, f161]
    exact RelF_fsort h k hk
  · intro k hk
    simp (disch := omega) only [e38, e39, e40, e41, e42, e43, e44, e45, e46, e47, e48, e49, w37_12, w37_13, w37_14, w37_15, f150, f151, f152, f153, f154, f155, f156, f157, f158, f159, f160, f161]
    exact RelF_fat h k hk
  · intro k hk
    simp (disch := omega) only [e38, e39, e40, e41, e42, e43, e44, e45, e46, e47, e48, e49, w37_12, w37_13, w37_14, w37_15, f150, f151, f152, f153, f154, f155, f156, f157, f158, f159, f160, f161]
    exact RelF_rkin h k hk
  · intro k hk
    simp (disch := omega) only [e38, e39, e40, e41, e42, e43, e44, e45, e46, e47, e48, e49, w37_12, w37_13, w37_14, w37_15, f150, f151, f152, f153, f154, f155, f156, f157, f158, f159, f160, f161]
    exact RelF_rhome h k hk
  · intro k hk
    simp (disch := omega) only [e38, e39, e40, e41, e42, e43, e44, e45, e46, e47, e48, e49, w37_12, w37_13, w37_14, w37_15, f150, f151, f152, f153, f154, f155, f156, f157, f158, f159, f160, f161]
    exact RelF_rtrade h k hk
  · intro k hk
    simp (disch := omega) only [e38, e39, e40, e41, e42, e43, e44, e45, e46, e47, e48, e49, w37_12, w37_13, w37_14, w37_15, f150, f151, f152, f153, f154, f155, f156, f157, f158, f159, f160, f161]
    exact RelF_rsafe h k hk
  · intro k hk
    simp (disch := omega) only [e38, e39, e40, e41, e42, e43, e44, e45, e46, e47, e48, e49, w37_12, w37_13, w37_14, w37_15, f150, f151, f152, f153, f154, f155, f156, f157, f158, f159, f160, f161]
    exact RelF_rnkin h k hk
  · intro k hk
    simp (disch := omega) only [e38, e39, e40, e41, e42, e43, e44, e45, e46, e47, e48, e49, w37_12, w37_13, w37_14, w37_15, f150, f151, f152, f153, f154, f155, f156, f157, f158, f159, f160, f161]
    exact RelF_rnhome h k hk
  · intro k hk
    simp (disch := omega) only [e38, e39, e40, e41, e42, e43, e44, e45, e46, e47, e48, e49, w37_12, w37_13, w37_14, w37_15, f150, f151, f152, f153, f154, f155, f156, f157, f158, f159, f160, f161]
    exact RelF_rtof h k hk
  · intro k hk
    simp (disch := omega) only [e38, e39, e40, e41, e42, e43, e44, e45, e46, e47, e48, e49, w37_12, w37_13, w37_14, w37_15, f150, f151, f152, f153, f154, f155, f156, f157, f158, f159, f160, f161]
    exact RelF_rsort h k hk
  · intro k hk
    simp (disch := omega) only [e38, e39, e40, e41, e42, e43, e44, e45, e46, e47, e48, e49, w37_12, w37_13, w37_14, w37_15, f150, f151, f152, f153, f154, f155, f156, f157, f158, f159, f160, f161]
    exact RelF_rwgt h k hk
  · intro k hk h2
    simp (disch := omega) only [e38, e39, e40, e41, e42, e43, e44, e45, e46, e47, e48, e49, w37_12, w37_13, w37_14, w37_15, f150, f151, f152, f153, f154, f155, f156, f157, f158, f159, f160, f161] at h2 ⊢
    exact RelF_rwgt1 h k hk h2
  · intro k hk
    simp (disch := omega) only [e38, e39, e40, e41, e42, e43, e44, e45, e46, e47, e48, e49, w37_12, w37_13, w37_14, w37_15, f150, f151, f152, f153, f154, f155, f156, f157, f158, f159, f160, f161]
    exact RelF_rworth h k hk
  · intro k hk
    simp (disch := omega) only [e38, e39, e40, e41, e42, e43, e44, e45, e46, e47, e48, e49, w37_12, w37_13, w37_14, w37_15, f150, f151, f152, f153, f154, f155, f156, f157, f158, f159, f160, f161]
    exact RelF_rfsort h k hk
  · intro k hk
    simp (disch := omega) only [e38, e39, e40, e41, e42, e43, e44, e45, e46, e47, e48, e49, w37_12, w37_13, w37_14, w37_15, f150, f151, f152, f153, f154, f155, f156, f157, f158, f159, f160, f161]
    exact RelF_rfat h k hk
  · simp only [w37_12, w37_13, w37_14, w37_15]
    exact RelF_rpersons h
  · simp only [w37_12, w37_13, w37_14, w37_15]
    exact RelF_rnames h
  · simp only [w37_12, w37_13, w37_14, w37_15]
    exact RelF_rthings h
  · simp only [w37_12, w37_13, w37_14, w37_15]
    exact RelF_rfinds h
theorem RelC_pt {c r c1 r1 : bM} (h : RelC c r) (e80 : ∀ k, k < 16 → c1 80 k = c 80 k) (e81 : ∀ k, k < 16 → c1 81 k = c 81 k) (e82 : ∀ k, k < 16 → c1 82 k = c 82 k) (e83 : ∀ k, k < 16 → c1 83 k = c 83 k) (e84 : ∀ k, k < 24 → c1 84 k = c 84 k) (e85 : ∀ k, k < 24 → c1 85 k = c 85 k) (w79_6 : c1 79 6 = c 79 6) (w79_7 : c1 79 7 = c 79 7) (w79_8 : c1 79 8 = c 79 8) (w79_9 : c1 79 9 = c 79 9) (f172 : ∀ k, k < 16 → r1 172 k = r 172 k) (f173 : ∀ k, k < 16 → r1 173 k = r 173 k) (f174 : ∀ k, k < 16 → r1 174 k = r 174 k) (f175 : ∀ k, k < 16 → r1 175 k = r 175 k) (f176 : ∀ k, k < 24 → r1 176 k = r 176 k) (f177 : ∀ k, k < 24 → r1 177 k = r 177 k) : RelC c1 r1 := by
  refine ⟨?_, ?_, ?_, ?_, ?_, ?_, ?_, ?_, ?_, ?_, ?_, ?_, ?_, ?_, ?_⟩
  · intro k hk
    simp (disch := omega) only [e80, e81, e82, e83, e84, e85, w79_6, w79_7, w79_8, w79_9, f172, f173, f174, f175, f176, f177]
    exact RelC_person h k hk
  · intro k hk
    simp (disch := omega) only [e80, e81, e82, e83, e84, e85, w79_6, w79_7, w79_8, w79_9, f172, f173, f174, f175, f176, f177]
    exact RelC_thing h k hk
  · intro k hk
    simp (disch := omega) only [e80, e81, e82, e83, e84, e85, w79_6, w79_7, w79_8, w79_9, f172, f173, f174, f175, f176, f177]
    exact RelC_made h k hk
  · intro k hk
    simp (disch := omega) only [e80, e81, e82, e83, e84, e85, w79_6, w79_7, w79_8, w79_9, f172, f173, f174, f175, f176, f177]
    exact RelC_paid h k hk
  · intro k hk
    simp (disch := omega) only [e80, e81, e82, e83, e84, e85, w79_6, w79_7, w79_8, w79_9, f172, f173, f174, f175, f176, f177]
    exact RelC_pclaim h k hk
  · intro k hk
    simp (disch := omega) only [e80, e81, e82, e83, e84, e85, w79_6, w79_7, w79_8, w79_9, f172, f173, f174, f175, f176, f177]
    exact RelC_pby h k hk
  · intro k hk
    simp (disch := omega) only [e80, e81, e82, e83, e84, e85, w79_6, w79_7, w79_8, w79_9, f172, f173, f174, f175, f176, f177]
    exact RelC_rperson h k hk
  · intro k hk
    simp (disch := omega) only [e80, e81, e82, e83, e84, e85, w79_6, w79_7, w79_8, w79_9, f172, f173, f174, f175, f176, f177]
    exact RelC_rthing h k hk
  · intro k hk
    simp (disch := omega) only [e80, e81, e82, e83, e84, e85, w79_6, w79_7, w79_8, w79_9, f172, f173, f174, f175, f176, f177]
    exact RelC_rmade h k hk
  · intro k hk
    simp (disch := omega) only [e80, e81, e82, e83, e84, e85, w79_6, w79_7, w79_8, w79_9, f172, f173, f174, f175, f176, f177]
    exact RelC_rpclaim h k hk
  · intro k hk
    simp (disch := omega) only [e80, e81, e82, e83, e84, e85, w79_6, w79_7, w79_8, w79_9, f172, f173, f174, f175, f176, f177]
    exact RelC_rpby h k hk
  · simp only [w79_6, w79_7, w79_8, w79_9]
    exact RelC_rcount h
  · simp only [w79_6, w79_7, w79_8, w79_9]
    exact RelC_rproofs h
  · simp only [w79_6, w79_7, w79_8, w79_9]
    exact RelC_rfund h
  · simp only [w79_6, w79_7, w79_8, w79_9]
    exact RelC_rtoday h
theorem cDep_pt {f g : Nat → Int} {a : Nat} : ∀ {j : Nat}, (∀ x, x < j → f (a + x) = g (a + x)) → cDep f a j = cDep g a j
  | 0, _ => rfl
  | j + 1, h => by
    unfold cDep
    rw [cDep_pt (fun x hx => h x (by omega)), h j (Nat.lt_succ_self j)]
theorem RelA_pt {c r c1 r1 : bM} (h : RelA c r) (e64 : ∀ k, k < 9 → c1 64 k = c 64 k) (e65 : ∀ k, k < 9 → c1 65 k = c 65 k) (e66 : ∀ k, k < 81 → c1 66 k = c 66 k) (e67 : ∀ k, k < 81 → c1 67 k = c 67 k) (e68 : ∀ k, k < 81 → c1 68 k = c 68 k) (e69 : ∀ k, k < 81 → c1 69 k = c 69 k) (e70 : ∀ k, k < 720 → c1 70 k = c 70 k) (w63_7 : c1 63 7 = c 63 7) (f162 : ∀ k, k < 8 → r1 162 k = r 162 k) (f163 : ∀ k, k < 8 → r1 163 k = r 163 k) (f164 : ∀ k, k < 8 → r1 164 k = r 164 k) (f165 : ∀ k, k < 72 → r1 165 k = r 165 k) (f166 : ∀ k, k < 72 → r1 166 k = r 166 k) (f167 : ∀ k, k < 72 → r1 167 k = r 167 k) (f168 : ∀ k, k < 72 → r1 168 k = r 168 k) (f169 : ∀ k, k < 640 → r1 169 k = r 169 k) (f170 : ∀ k, k < 640 → r1 170 k = r 170 k) (f171 : ∀ k, k < 640 → r1 171 k = r 171 k) : RelA c1 r1 := by
  have rv := RelA_rversions h
  refine ⟨?_, ?_, ?_, ?_⟩
  · rw [w63_7]; exact rv
  · intro v hv
    rw [w63_7] at hv
    rw [f162 v (by omega), e64 v (by omega)]
    exact RelA_day h v hv
  · intro v hv
    rw [w63_7] at hv
    rw [f163 v (by omega), e65 v (by omega)]
    exact RelA_lines h v hv
  · intro v i hv hi
    rw [w63_7] at hv
    rw [e65 v (by omega)] at hi
    have ln := RelA_lines h v hv
    have x72 : 9 * v + i < 72 := by omega
    have x81 : 9 * v + i < 81 := by omega
    have L := RelA_line h v i hv hi
    unfold lineOK at L ⊢
    rw [e66 _ x81, e67 _ x81, e68 _ x81, e69 _ x81, f165 _ x72, f166 _ x72, f167 _ x72, f168 _ x72]
    obtain ⟨l1, l2, l3, l4, l5, l6, l7, l8, l9, l10, l11, l12, l13⟩ := L
    refine ⟨l1, l2, l3, l4, l5, l6, l7, l8, l9, l10, l11, fun j h1 h2 => ?_, fun j hj => ?_⟩
    · have j640 : 80 * v + j < 640 := by omega
      have j720 : 80 * v + j < 720 := by omega
      rw [e70 _ j720, f169 _ j640, f170 _ j640, f171 _ j640]
      exact l12 j h1 h2
    · have E : cDep (c1 70) (80 * v + (c 68 (9 * v + i)).toNat) j = cDep (c 70) (80 * v + (c 68 (9 * v + i)).toNat) j := cDep_pt (fun x hx => e70 _ (by omega))
      rw [E]
      exact l13 j hj
theorem RelN_pt {c r c1 r1 : bM} (h : RelN c r) (w1_7 : c1 1 7 = c 1 7) (w1_8 : c1 1 8 = c 1 8) (w1_9 : c1 1 9 = c 1 9) (w1_10 : c1 1 10 = c 1 10) (w17_9 : c1 17 9 = c 17 9) (w17_10 : c1 17 10 = c 17 10) (w37_12 : c1 37 12 = c 37 12) (w37_13 : c1 37 13 = c 37 13) (w37_14 : c1 37 14 = c 37 14) (w37_15 : c1 37 15 = c 37 15) (w63_7 : c1 63 7 = c 63 7) (w79_6 : c1 79 6 = c 79 6) (w79_7 : c1 79 7 = c 79 7) (w79_8 : c1 79 8 = c 79 8) (w79_9 : c1 79 9 = c 79 9) (f133 : ∀ k, k < 14 → r1 133 k = r 133 k) : RelN c1 r1 := by
  obtain ⟨v0, v1, v2, v3, v4, v5, v6, v7, v8, v9, v10, v11, v12, v13⟩ := h
  exact ⟨by rw [f133 0 (by decide)]; simp only [w1_7, w1_8, w1_9, w1_10, w17_9, w17_10, w37_12, w37_13, w37_14, w37_15, w63_7, w79_6, w79_7, w79_8, w79_9]; exact v0, by rw [f133 1 (by decide)]; simp only [w1_7, w1_8, w1_9, w1_10, w17_9, w17_10, w37_12, w37_13, w37_14, w37_15, w63_7, w79_6, w79_7, w79_8, w79_9]; exact v1, by rw [f133 2 (by decide)]; simp only [w1_7, w1_8, w1_9, w1_10, w17_9, w17_10, w37_12, w37_13, w37_14, w37_15, w63_7, w79_6, w79_7, w79_8, w79_9]; exact v2, by rw [f133 3 (by decide)]; simp only [w1_7, w1_8, w1_9, w1_10, w17_9, w17_10, w37_12, w37_13, w37_14, w37_15, w63_7, w79_6, w79_7, w79_8, w79_9]; exact v3, by rw [f133 4 (by decide)]; simp only [w1_7, w1_8, w1_9, w1_10, w17_9, w17_10, w37_12, w37_13, w37_14, w37_15, w63_7, w79_6, w79_7, w79_8, w79_9]; exact v4, by rw [f133 5 (by decide)]; simp only [w1_7, w1_8, w1_9, w1_10, w17_9, w17_10, w37_12, w37_13, w37_14, w37_15, w63_7, w79_6, w79_7, w79_8, w79_9]; exact v5, by rw [f133 6 (by decide)]; simp only [w1_7, w1_8, w1_9, w1_10, w17_9, w17_10, w37_12, w37_13, w37_14, w37_15, w63_7, w79_6, w79_7, w79_8, w79_9]; exact v6, by rw [f133 7 (by decide)]; simp only [w1_7, w1_8, w1_9, w1_10, w17_9, w17_10, w37_12, w37_13, w37_14, w37_15, w63_7, w79_6, w79_7, w79_8, w79_9]; exact v7, by rw [f133 8 (by decide)]; simp only [w1_7, w1_8, w1_9, w1_10, w17_9, w17_10, w37_12, w37_13, w37_14, w37_15, w63_7, w79_6, w79_7, w79_8, w79_9]; exact v8, by rw [f133 9 (by decide)]; simp only [w1_7, w1_8, w1_9, w1_10, w17_9, w17_10, w37_12, w37_13, w37_14, w37_15, w63_7, w79_6, w79_7, w79_8, w79_9]; exact v9, by rw [f133 10 (by decide)]; simp only [w1_7, w1_8, w1_9, w1_10, w17_9, w17_10, w37_12, w37_13, w37_14, w37_15, w63_7, w79_6, w79_7, w79_8, w79_9]; exact v10, by rw [f133 11 (by decide)]; simp only [w1_7, w1_8, w1_9, w1_10, w17_9, w17_10, w37_12, w37_13, w37_14, w37_15, w63_7, w79_6, w79_7, w79_8, w79_9]; exact v11, by rw [f133 12 (by decide)]; simp only [w1_7, w1_8, w1_9, w1_10, w17_9, w17_10, w37_12, w37_13, w37_14, w37_15, w63_7, w79_6, w79_7, w79_8, w79_9]; exact v12, by rw [f133 13 (by decide)]; simp only [w1_7, w1_8, w1_9, w1_10, w17_9, w17_10, w37_12, w37_13, w37_14, w37_15, w63_7, w79_6, w79_7, w79_8, w79_9]; exact v13⟩
theorem zc_3 : ((3 : Int) ≤ ((3 : Nat) : Int)) = True := eq_true (by decide)
theorem zc_4 : ((4 : Int) ≤ ((4 : Nat) : Int)) = True := eq_true (by decide)
theorem zc_9 : ((9 : Int) ≤ ((9 : Nat) : Int)) = True := eq_true (by decide)
theorem zc_10 : ((10 : Int) ≤ ((10 : Nat) : Int)) = True := eq_true (by decide)
theorem zc_16 : ((16 : Int) ≤ ((16 : Nat) : Int)) = True := eq_true (by decide)
theorem zc_24 : ((24 : Int) ≤ ((24 : Nat) : Int)) = True := eq_true (by decide)
theorem zc_81 : ((81 : Int) ≤ ((81 : Nat) : Int)) = True := eq_true (by decide)
theorem zc_720 : ((720 : Int) ≤ ((720 : Nat) : Int)) = True := eq_true (by decide)
theorem q_copy {κ : bK} {cal : bCl} {ls : bLs} {m : bM} {idx kd n0 n1 : Nat} {a b : ER κ} {B : ES κ} {h : ∀ w ∈ [Cond.methodLink κ.1 idx arraycopyName, Cond.native arraycopyName, Cond.static arraycopyName, Cond.initialized "java/lang/System"], w ∈ bT} (N : Int) (ca cb : Nat) (hca : a.1.2.2 = ca) (hcb : b.1.2.2 = cb) (ha : getR ls a.1.2.1.1 = some a.1.2.1.2) (hb : getR ls b.1.2.1.1 = some b.1.2.1.2) (g0 : 0 ≤ N) (g1 : 0 + N ≤ (n0 : Int)) (g2 : 0 + N ≤ (n1 : Int)) : (sSeq (sCopy kd n0 n1 a (eInt 0) b (eInt 0) (eInt N) h) B).1.2 cal ls m = B.1.2 cal ls (bcpy m ca cb 0 0 N.toNat) := by
  rw [d_sSeq, d_sCopy, if_pos ⟨ha, hb⟩, d_eInt, Option.bind_some, d_eInt, Option.bind_some, d_eInt, Option.bind_some, if_pos ⟨Int.le_refl 0, Int.le_refl 0, g0, g1, g2⟩, Option.map_some, Option.bind_some, sqk_0, hca, hcb]
  rfl
theorem cpz {k n : Nat} (h : k < n) : 0 ≤ k ∧ k < 0 + n := by omega
theorem cpk {k : Nat} : 0 + (k - 0) = k := by omega
theorem cp_Valley_copyFrom (n : Nat) (m : bM) : ∃ m2, sem (n + 1) 190 [aR 9, aR 1] m = some (m2, 0) ∧ (∀ i, (i < 9 ∨ 16 < i) → m2 i = m i) ∧ (∀ k, k < 12 → m2 10 k = m 2 k) ∧ (∀ k, k < 12 → m2 11 k = m 3 k) ∧ (∀ k, k < 24 → m2 12 k = m 4 k) ∧ (∀ k, k < 3 → m2 13 k = m 5 k) ∧ (∀ k, k < 10 → m2 14 k = m 6 k) ∧ (∀ k, k < 10 → m2 15 k = m 7 k) ∧ (∀ k, k < 10 → m2 16 k = m 8 k) ∧ m2 9 7 = m 1 7 ∧ m2 9 8 = m 1 8 ∧ m2 9 9 = m 1 9 ∧ m2 9 10 = m 1 10 := by
  obtain ⟨x1, h1⟩ : ∃ x, x = bcpy m 2 10 0 0 12 := ⟨_, rfl⟩
  have o1 : ∀ i, i ≠ 10 → x1 i = m i := fun i hi => by rw [h1, bcpy_ne _ _ _ _ _ _ hi]
  have v1 : ∀ k, k < 12 → x1 10 k = m 2 k := fun k hk => by rw [h1, bcpy_c, if_pos (cpz hk), cpk]
  obtain ⟨x2, h2⟩ : ∃ x, x = bcpy x1 3 11 0 0 12 := ⟨_, rfl⟩
  have o2 : ∀ i, i ≠ 11 → x2 i = x1 i := fun i hi => by rw [h2, bcpy_ne _ _ _ _ _ _ hi]
  have v2 : ∀ k, k < 12 → x2 11 k = x1 3 k := fun k hk => by rw [h2, bcpy_c, if_pos (cpz hk), cpk]
  obtain ⟨x3, h3⟩ : ∃ x, x = bcpy x2 4 12 0 0 24 := ⟨_, rfl⟩
  have o3 : ∀ i, i ≠ 12 → x3 i = x2 i := fun i hi => by rw [h3, bcpy_ne _ _ _ _ _ _ hi]
  have v3 : ∀ k, k < 24 → x3 12 k = x2 4 k := fun k hk => by rw [h3, bcpy_c, if_pos (cpz hk), cpk]
  obtain ⟨x4, h4⟩ : ∃ x, x = bcpy x3 5 13 0 0 3 := ⟨_, rfl⟩
  have o4 : ∀ i, i ≠ 13 → x4 i = x3 i := fun i hi => by rw [h4, bcpy_ne _ _ _ _ _ _ hi]
  have v4 : ∀ k, k < 3 → x4 13 k = x3 5 k := fun k hk => by rw [h4, bcpy_c, if_pos (cpz hk), cpk]
  obtain ⟨x5, h5⟩ : ∃ x, x = bcpy x4 6 14 0 0 10 := ⟨_, rfl⟩
  have o5 : ∀ i, i ≠ 14 → x5 i = x4 i := fun i hi => by rw [h5, bcpy_ne _ _ _ _ _ _ hi]
  have v5 : ∀ k, k < 10 → x5 14 k = x4 6 k := fun k hk => by rw [h5, bcpy_c, if_pos (cpz hk), cpk]
  obtain ⟨x6, h6⟩ : ∃ x, x = bcpy x5 7 15 0 0 10 := ⟨_, rfl⟩
  have o6 : ∀ i, i ≠ 15 → x6 i = x5 i := fun i hi => by rw [h6, bcpy_ne _ _ _ _ _ _ hi]
  have v6 : ∀ k, k < 10 → x6 15 k = x5 7 k := fun k hk => by rw [h6, bcpy_c, if_pos (cpz hk), cpk]
  obtain ⟨x7, h7⟩ : ∃ x, x = bcpy x6 8 16 0 0 10 := ⟨_, rfl⟩
  have o7 : ∀ i, i ≠ 16 → x7 i = x6 i := fun i hi => by rw [h7, bcpy_ne _ _ _ _ _ _ hi]
  have v7 : ∀ k, k < 10 → x7 16 k = x6 8 k := fun k hk => by rw [h7, bcpy_c, if_pos (cpz hk), cpk]
  obtain ⟨x8, h8⟩ : ∃ x, x = bwr x7 9 7 (x7 1 7) := ⟨_, rfl⟩
  have o8 : ∀ i, i ≠ 9 → x8 i = x7 i := fun i hi => by rw [h8, bwr_ne _ _ hi]
  have p8 : ∀ k, k ≠ 7 → x8 9 k = x7 9 k := fun k hk => by rw [h8, bwr_ne2 _ hk]
  have v8 : x8 9 7 = x7 1 7 := by rw [h8, bwr_eq2]
  obtain ⟨x9, h9⟩ : ∃ x, x = bwr x8 9 8 (x8 1 8) := ⟨_, rfl⟩
  have o9 : ∀ i, i ≠ 9 → x9 i = x8 i := fun i hi => by rw [h9, bwr_ne _ _ hi]
  have p9 : ∀ k, k ≠ 8 → x9 9 k = x8 9 k := fun k hk => by rw [h9, bwr_ne2 _ hk]
  have v9 : x9 9 8 = x8 1 8 := by rw [h9, bwr_eq2]
  obtain ⟨x10, h10⟩ : ∃ x, x = bwr x9 9 9 (x9 1 9) := ⟨_, rfl⟩
  have o10 : ∀ i, i ≠ 9 → x10 i = x9 i := fun i hi => by rw [h10, bwr_ne _ _ hi]
  have p10 : ∀ k, k ≠ 9 → x10 9 k = x9 9 k := fun k hk => by rw [h10, bwr_ne2 _ hk]
  have v10 : x10 9 9 = x9 1 9 := by rw [h10, bwr_eq2]
  obtain ⟨x11, h11⟩ : ∃ x, x = bwr x10 9 10 (x10 1 10) := ⟨_, rfl⟩
  have o11 : ∀ i, i ≠ 9 → x11 i = x10 i := fun i hi => by rw [h11, bwr_ne _ _ hi]
  have p11 : ∀ k, k ≠ 10 → x11 9 k = x10 9 k := fun k hk => by rw [h11, bwr_ne2 _ hk]
  have v11 : x11 9 10 = x10 1 10 := by rw [h11, bwr_eq2]
  refine ⟨x11, ?_, ?_, ?_, ?_, ?_, ?_, ?_, ?_, ?_, ?_, ?_, ?_, ?_⟩
  · rw [st_Valley_copyFrom]
    unfold B_Valley_copyFrom
    rw [q_copy 12 2 10 rfl rfl rfl rfl (by decide) (by decide) (by decide), show (12 : Int).toNat = 12 from rfl, ← h1]
    rw [q_copy 12 3 11 rfl rfl rfl rfl (by decide) (by decide) (by decide), show (12 : Int).toNat = 12 from rfl, ← h2]
    rw [q_copy 24 4 12 rfl rfl rfl rfl (by decide) (by decide) (by decide), show (24 : Int).toNat = 24 from rfl, ← h3]
    rw [q_copy 3 5 13 rfl rfl rfl rfl (by decide) (by decide) (by decide), show (3 : Int).toNat = 3 from rfl, ← h4]
    rw [q_copy 10 6 14 rfl rfl rfl rfl (by decide) (by decide) (by decide), show (10 : Int).toNat = 10 from rfl, ← h5]
    rw [q_copy 10 7 15 rfl rfl rfl rfl (by decide) (by decide) (by decide), show (10 : Int).toNat = 10 from rfl, ← h6]
    rw [q_copy 10 8 16 rfl rfl rfl rfl (by decide) (by decide) (by decide), show (10 : Int).toNat = 10 from rfl, ← h7]
    simp only [kr_Valley_copyFrom, ← h8, ← h9, ← h10, ← h11, d_rLoc1, d_rLoc2, d_rFld1, d_rFld2, d_eInt, d_eLdc, d_eLdw, d_eLoc, d_eFld, d_lFld, d_eAI, d_eAZ, d_eAB, d_lAL, d_eAD, d_eLen, d_eAdd, d_eSub, d_eMul, d_eAnd, d_eOr, d_eXor, d_eShl, d_eShr, d_eUsh, d_lAdd, d_lSub, d_lMul, d_lAnd, d_lOr, d_lXor, d_lShl, d_lShr, d_eDiv, d_eRem, d_eCmp, d_eI2B, d_eI2S, d_eL2I, d_lI2L, d_lInt, d_lLdc, d_lLoc, d_eIte, d_lIte, d_eMax, d_eMin, d_eAbs, d_eAbove, d_eBodies, d_cQ, d_cZ, d_cNot, d_cAnd, d_cOr, d_gNil, d_gI, d_gL, d_gR, d_gD, d_xV, d_xS, d_xN, d_xT, d_eCall, d_lCall, d_eCallC, d_sNop, d_sSet, d_sSetL, d_sSetR, d_sSetQ, d_sInc, d_sPutI, d_sPutZ, d_sPutL, d_sPutA, d_sPutAZ, d_sPutAB, d_sPutAL, d_sPutD, d_sOpF, d_sOpA, d_sCall, d_sCopy, d_sSeq, d_sIf, d_sBrk, d_sCnt, d_sRetV, d_sRet, d_sRetL, d_sLp, d_tDef, d_tCase, d_sSw, d_sSwB, bIt_d, itb_0, itb_1, itb_2, itb_r, its_0, sqk_0, sqk_1, sqk_2, sqk_r, swk_0, swk_1, swk_r, bfin_r, bfin_ite, Option.bind_some, Option.map_some, Option.bind_none, Option.map_none, bind_ite, map_ite, cop0, cop1, cop2, cop3, cop4, cop5, opv0, opv1, opv2, opv3, brc_i, brc_z, two_ne_one, false_or, getI, getR, getL, List.getElem?_cons_zero, List.getElem?_cons_succ, List.set_cons_zero, List.set_cons_succ, bnl, if_true, if_false, true_or, or_true, decide_eq_true_eq, Bool.not_eq_true', decide_eq_false_iff_not, Bool.not_true, Bool.not_false, Bool.true_eq_false, Bool.false_eq_true, ite_not, reduceIte, ite01_0, ite01_1, Decidable.not_not, ne_eq, not_true_eq_false, not_false_eq_true, Function.comp_apply, decide_not, Bool.not_not, Bool.not_eq_false', dc_t, dc_f, and_self, true_and, and_true, and_false, false_and, tnc, Int.reduceLT, Int.reduceLE, Int.reduceEq, Int.reduceAdd, Int.reduceSub, Int.reduceMul, Int.reduceToNat, Int.reduceNeg, Int.reduceNe]
  · intro i hi
    rw [o11 i (by omega), o10 i (by omega), o9 i (by omega), o8 i (by omega), o7 i (by omega), o6 i (by omega), o5 i (by omega), o4 i (by omega), o3 i (by omega), o2 i (by omega), o1 i (by omega)]
  · intro k hk
    rw [o11 _ (by decide), o10 _ (by decide), o9 _ (by decide), o8 _ (by decide), o7 _ (by decide), o6 _ (by decide), o5 _ (by decide), o4 _ (by decide), o3 _ (by decide), o2 _ (by decide), v1 k hk]
  · intro k hk
    rw [o11 _ (by decide), o10 _ (by decide), o9 _ (by decide), o8 _ (by decide), o7 _ (by decide), o6 _ (by decide), o5 _ (by decide), o4 _ (by decide), o3 _ (by decide), v2 k hk, o1 _ (by decide)]
  · intro k hk
    rw [o11 _ (by decide), o10 _ (by decide), o9 _ (by decide), o8 _ (by decide), o7 _ (by decide), o6 _ (by decide), o5 _ (by decide), o4 _ (by decide), v3 k hk, o2 _ (by decide), o1 _ (by decide)]
  · intro k hk
    rw [o11 _ (by decide), o10 _ (by decide), o9 _ (by decide), o8 _ (by decide), o7 _ (by decide), o6 _ (by decide), o5 _ (by decide), v4 k hk, o3 _ (by decide), o2 _ (by decide), o1 _ (by decide)]
  · intro k hk
    rw [o11 _ (by decide), o10 _ (by decide), o9 _ (by decide), o8 _ (by decide), o7 _ (by decide), o6 _ (by decide), v5 k hk, o4 _ (by decide), o3 _ (by decide), o2 _ (by decide), o1 _ (by decide)]
  · intro k hk
    rw [o11 _ (by decide), o10 _ (by decide), o9 _ (by decide), o8 _ (by decide), o7 _ (by decide), v6 k hk, o5 _ (by decide), o4 _ (by decide), o3 _ (by decide), o2 _ (by decide), o1 _ (by decide)]
  · intro k hk
    rw [o11 _ (by decide), o10 _ (by decide), o9 _ (by decide), o8 _ (by decide), v7 k hk, o6 _ (by decide), o5 _ (by decide), o4 _ (by decide), o3 _ (by decide), o2 _ (by decide), o1 _ (by decide)]
  · rw [p11 _ (by decide), p10 _ (by decide), p9 _ (by decide), v8, o7 _ (by decide), o6 _ (by decide), o5 _ (by decide), o4 _ (by decide), o3 _ (by decide), o2 _ (by decide), o1 _ (by decide)]
  · rw [p11 _ (by decide), p10 _ (by decide), v9, o8 _ (by decide), o7 _ (by decide), o6 _ (by decide), o5 _ (by decide), o4 _ (by decide), o3 _ (by decide), o2 _ (by decide), o1 _ (by decide)]
  · rw [p11 _ (by decide), v10, o9 _ (by decide), o8 _ (by decide), o7 _ (by decide), o6 _ (by decide), o5 _ (by decide), o4 _ (by decide), o3 _ (by decide), o2 _ (by decide), o1 _ (by decide)]
  · rw [v11, o10 _ (by decide), o9 _ (by decide), o8 _ (by decide), o7 _ (by decide), o6 _ (by decide), o5 _ (by decide), o4 _ (by decide), o3 _ (by decide), o2 _ (by decide), o1 _ (by decide)]
theorem cp_Valley_copyFrom2 (n : Nat) (m : bM) : ∃ m2, sem (n + 1) 195 [aR 1, aR 9] m = some (m2, 0) ∧ (∀ i, (i < 1 ∨ 8 < i) → m2 i = m i) ∧ (∀ k, k < 12 → m2 2 k = m 10 k) ∧ (∀ k, k < 12 → m2 3 k = m 11 k) ∧ (∀ k, k < 24 → m2 4 k = m 12 k) ∧ (∀ k, k < 3 → m2 5 k = m 13 k) ∧ (∀ k, k < 10 → m2 6 k = m 14 k) ∧ (∀ k, k < 10 → m2 7 k = m 15 k) ∧ (∀ k, k < 10 → m2 8 k = m 16 k) ∧ m2 1 7 = m 9 7 ∧ m2 1 8 = m 9 8 ∧ m2 1 9 = m 9 9 ∧ m2 1 10 = m 9 10 := by
  obtain ⟨x1, h1⟩ : ∃ x, x = bcpy m 10 2 0 0 12 := ⟨_, rfl⟩
  have o1 : ∀ i, i ≠ 2 → x1 i = m i := fun i hi => by rw [h1, bcpy_ne _ _ _ _ _ _ hi]
  have v1 : ∀ k, k < 12 → x1 2 k = m 10 k := fun k hk => by rw [h1, bcpy_c, if_pos (cpz hk), cpk]
  obtain ⟨x2, h2⟩ : ∃ x, x = bcpy x1 11 3 0 0 12 := ⟨_, rfl⟩
  have o2 : ∀ i, i ≠ 3 → x2 i = x1 i := fun i hi => by rw [h2, bcpy_ne _ _ _ _ _ _ hi]
  have v2 : ∀ k, k < 12 → x2 3 k = x1 11 k := fun k hk => by rw [h2, bcpy_c, if_pos (cpz hk), cpk]
  obtain ⟨x3, h3⟩ : ∃ x, x = bcpy x2 12 4 0 0 24 := ⟨_, rfl⟩
  have o3 : ∀ i, i ≠ 4 → x3 i = x2 i := fun i hi => by rw [h3, bcpy_ne _ _ _ _ _ _ hi]
  have v3 : ∀ k, k < 24 → x3 4 k = x2 12 k := fun k hk => by rw [h3, bcpy_c, if_pos (cpz hk), cpk]
  obtain ⟨x4, h4⟩ : ∃ x, x = bcpy x3 13 5 0 0 3 := ⟨_, rfl⟩
  have o4 : ∀ i, i ≠ 5 → x4 i = x3 i := fun i hi => by rw [h4, bcpy_ne _ _ _ _ _ _ hi]
  have v4 : ∀ k, k < 3 → x4 5 k = x3 13 k := fun k hk => by rw [h4, bcpy_c, if_pos (cpz hk), cpk]
  obtain ⟨x5, h5⟩ : ∃ x, x = bcpy x4 14 6 0 0 10 := ⟨_, rfl⟩
  have o5 : ∀ i, i ≠ 6 → x5 i = x4 i := fun i hi => by rw [h5, bcpy_ne _ _ _ _ _ _ hi]
  have v5 : ∀ k, k < 10 → x5 6 k = x4 14 k := fun k hk => by rw [h5, bcpy_c, if_pos (cpz hk), cpk]
  obtain ⟨x6, h6⟩ : ∃ x, x = bcpy x5 15 7 0 0 10 := ⟨_, rfl⟩
  have o6 : ∀ i, i ≠ 7 → x6 i = x5 i := fun i hi => by rw [h6, bcpy_ne _ _ _ _ _ _ hi]
  have v6 : ∀ k, k < 10 → x6 7 k = x5 15 k := fun k hk => by rw [h6, bcpy_c, if_pos (cpz hk), cpk]
  obtain ⟨x7, h7⟩ : ∃ x, x = bcpy x6 16 8 0 0 10 := ⟨_, rfl⟩
  have o7 : ∀ i, i ≠ 8 → x7 i = x6 i := fun i hi => by rw [h7, bcpy_ne _ _ _ _ _ _ hi]
  have v7 : ∀ k, k < 10 → x7 8 k = x6 16 k := fun k hk => by rw [h7, bcpy_c, if_pos (cpz hk), cpk]
  obtain ⟨x8, h8⟩ : ∃ x, x = bwr x7 1 7 (x7 9 7) := ⟨_, rfl⟩
  have o8 : ∀ i, i ≠ 1 → x8 i = x7 i := fun i hi => by rw [h8, bwr_ne _ _ hi]
  have p8 : ∀ k, k ≠ 7 → x8 1 k = x7 1 k := fun k hk => by rw [h8, bwr_ne2 _ hk]
  have v8 : x8 1 7 = x7 9 7 := by rw [h8, bwr_eq2]
  obtain ⟨x9, h9⟩ : ∃ x, x = bwr x8 1 8 (x8 9 8) := ⟨_, rfl⟩
  have o9 : ∀ i, i ≠ 1 → x9 i = x8 i := fun i hi => by rw [h9, bwr_ne _ _ hi]
  have p9 : ∀ k, k ≠ 8 → x9 1 k = x8 1 k := fun k hk => by rw [h9, bwr_ne2 _ hk]
  have v9 : x9 1 8 = x8 9 8 := by rw [h9, bwr_eq2]
  obtain ⟨x10, h10⟩ : ∃ x, x = bwr x9 1 9 (x9 9 9) := ⟨_, rfl⟩
  have o10 : ∀ i, i ≠ 1 → x10 i = x9 i := fun i hi => by rw [h10, bwr_ne _ _ hi]
  have p10 : ∀ k, k ≠ 9 → x10 1 k = x9 1 k := fun k hk => by rw [h10, bwr_ne2 _ hk]
  have v10 : x10 1 9 = x9 9 9 := by rw [h10, bwr_eq2]
  obtain ⟨x11, h11⟩ : ∃ x, x = bwr x10 1 10 (x10 9 10) := ⟨_, rfl⟩
  have o11 : ∀ i, i ≠ 1 → x11 i = x10 i := fun i hi => by rw [h11, bwr_ne _ _ hi]
  have p11 : ∀ k, k ≠ 10 → x11 1 k = x10 1 k := fun k hk => by rw [h11, bwr_ne2 _ hk]
  have v11 : x11 1 10 = x10 9 10 := by rw [h11, bwr_eq2]
  refine ⟨x11, ?_, ?_, ?_, ?_, ?_, ?_, ?_, ?_, ?_, ?_, ?_, ?_, ?_⟩
  · rw [st_Valley_copyFrom2]
    unfold B_Valley_copyFrom2
    rw [q_copy 12 10 2 rfl rfl rfl rfl (by decide) (by decide) (by decide), show (12 : Int).toNat = 12 from rfl, ← h1]
    rw [q_copy 12 11 3 rfl rfl rfl rfl (by decide) (by decide) (by decide), show (12 : Int).toNat = 12 from rfl, ← h2]
    rw [q_copy 24 12 4 rfl rfl rfl rfl (by decide) (by decide) (by decide), show (24 : Int).toNat = 24 from rfl, ← h3]
    rw [q_copy 3 13 5 rfl rfl rfl rfl (by decide) (by decide) (by decide), show (3 : Int).toNat = 3 from rfl, ← h4]
    rw [q_copy 10 14 6 rfl rfl rfl rfl (by decide) (by decide) (by decide), show (10 : Int).toNat = 10 from rfl, ← h5]
    rw [q_copy 10 15 7 rfl rfl rfl rfl (by decide) (by decide) (by decide), show (10 : Int).toNat = 10 from rfl, ← h6]
    rw [q_copy 10 16 8 rfl rfl rfl rfl (by decide) (by decide) (by decide), show (10 : Int).toNat = 10 from rfl, ← h7]
    simp only [kr_Valley_copyFrom2, ← h8, ← h9, ← h10, ← h11, d_rLoc1, d_rLoc2, d_rFld1, d_rFld2, d_eInt, d_eLdc, d_eLdw, d_eLoc, d_eFld, d_lFld, d_eAI, d_eAZ, d_eAB, d_lAL, d_eAD, d_eLen, d_eAdd, d_eSub, d_eMul, d_eAnd, d_eOr, d_eXor, d_eShl, d_eShr, d_eUsh, d_lAdd, d_lSub, d_lMul, d_lAnd, d_lOr, d_lXor, d_lShl, d_lShr, d_eDiv, d_eRem, d_eCmp, d_eI2B, d_eI2S, d_eL2I, d_lI2L, d_lInt, d_lLdc, d_lLoc, d_eIte, d_lIte, d_eMax, d_eMin, d_eAbs, d_eAbove, d_eBodies, d_cQ, d_cZ, d_cNot, d_cAnd, d_cOr, d_gNil, d_gI, d_gL, d_gR, d_gD, d_xV, d_xS, d_xN, d_xT, d_eCall, d_lCall, d_eCallC, d_sNop, d_sSet, d_sSetL, d_sSetR, d_sSetQ, d_sInc, d_sPutI, d_sPutZ, d_sPutL, d_sPutA, d_sPutAZ, d_sPutAB, d_sPutAL, d_sPutD, d_sOpF, d_sOpA, d_sCall, d_sCopy, d_sSeq, d_sIf, d_sBrk, d_sCnt, d_sRetV, d_sRet, d_sRetL, d_sLp, d_tDef, d_tCase, d_sSw, d_sSwB, bIt_d, itb_0, itb_1, itb_2, itb_r, its_0, sqk_0, sqk_1, sqk_2, sqk_r, swk_0, swk_1, swk_r, bfin_r, bfin_ite, Option.bind_some, Option.map_some, Option.bind_none, Option.map_none, bind_ite, map_ite, cop0, cop1, cop2, cop3, cop4, cop5, opv0, opv1, opv2, opv3, brc_i, brc_z, two_ne_one, false_or, getI, getR, getL, List.getElem?_cons_zero, List.getElem?_cons_succ, List.set_cons_zero, List.set_cons_succ, bnl, if_true, if_false, true_or, or_true, decide_eq_true_eq, Bool.not_eq_true', decide_eq_false_iff_not, Bool.not_true, Bool.not_false, Bool.true_eq_false, Bool.false_eq_true, ite_not, reduceIte, ite01_0, ite01_1, Decidable.not_not, ne_eq, not_true_eq_false, not_false_eq_true, Function.comp_apply, decide_not, Bool.not_not, Bool.not_eq_false', dc_t, dc_f, and_self, true_and, and_true, and_false, false_and, tnc, Int.reduceLT, Int.reduceLE, Int.reduceEq, Int.reduceAdd, Int.reduceSub, Int.reduceMul, Int.reduceToNat, Int.reduceNeg, Int.reduceNe]
  · intro i hi
    rw [o11 i (by omega), o10 i (by omega), o9 i (by omega), o8 i (by omega), o7 i (by omega), o6 i (by omega), o5 i (by omega), o4 i (by omega), o3 i (by omega), o2 i (by omega), o1 i (by omega)]
  · intro k hk
    rw [o11 _ (by decide), o10 _ (by decide), o9 _ (by decide), o8 _ (by decide), o7 _ (by decide), o6 _ (by decide), o5 _ (by decide), o4 _ (by decide), o3 _ (by decide), o2 _ (by decide), v1 k hk]
  · intro k hk
    rw [o11 _ (by decide), o10 _ (by decide), o9 _ (by decide), o8 _ (by decide), o7 _ (by decide), o6 _ (by decide), o5 _ (by decide), o4 _ (by decide), o3 _ (by decide), v2 k hk, o1 _ (by decide)]
  · intro k hk
    rw [o11 _ (by decide), o10 _ (by decide), o9 _ (by decide), o8 _ (by decide), o7 _ (by decide), o6 _ (by decide), o5 _ (by decide), o4 _ (by decide), v3 k hk, o2 _ (by decide), o1 _ (by decide)]
  · intro k hk
    rw [o11 _ (by decide), o10 _ (by decide), o9 _ (by decide), o8 _ (by decide), o7 _ (by decide), o6 _ (by decide), o5 _ (by decide), v4 k hk, o3 _ (by decide), o2 _ (by decide), o1 _ (by decide)]
  · intro k hk
    rw [o11 _ (by decide), o10 _ (by decide), o9 _ (by decide), o8 _ (by decide), o7 _ (by decide), o6 _ (by decide), v5 k hk, o4 _ (by decide), o3 _ (by decide), o2 _ (by decide), o1 _ (by decide)]
  · intro k hk
    rw [o11 _ (by decide), o10 _ (by decide), o9 _ (by decide), o8 _ (by decide), o7 _ (by decide), v6 k hk, o5 _ (by decide), o4 _ (by decide), o3 _ (by decide), o2 _ (by decide), o1 _ (by decide)]
  · intro k hk
    rw [o11 _ (by decide), o10 _ (by decide), o9 _ (by decide), o8 _ (by decide), v7 k hk, o6 _ (by decide), o5 _ (by decide), o4 _ (by decide), o3 _ (by decide), o2 _ (by decide), o1 _ (by decide)]
  · rw [p11 _ (by decide), p10 _ (by decide), p9 _ (by decide), v8, o7 _ (by decide), o6 _ (by decide), o5 _ (by decide), o4 _ (by decide), o3 _ (by decide), o2 _ (by decide), o1 _ (by decide)]
  · rw [p11 _ (by decide), p10 _ (by decide), v9, o8 _ (by decide), o7 _ (by decide), o6 _ (by decide), o5 _ (by decide), o4 _ (by decide), o3 _ (by decide), o2 _ (by decide), o1 _ (by decide)]
  · rw [p11 _ (by decide), v10, o9 _ (by decide), o8 _ (by decide), o7 _ (by decide), o6 _ (by decide), o5 _ (by decide), o4 _ (by decide), o3 _ (by decide), o2 _ (by decide), o1 _ (by decide)]
  · rw [v11, o10 _ (by decide), o9 _ (by decide), o8 _ (by decide), o7 _ (by decide), o6 _ (by decide), o5 _ (by decide), o4 _ (by decide), o3 _ (by decide), o2 _ (by decide), o1 _ (by decide)]
theorem cp_Seen_copyFrom (n : Nat) (m : bM) : ∃ m2, sem (n + 1) 191 [aR 27, aR 17] m = some (m2, 0) ∧ (∀ i, (i < 27 ∨ 36 < i) → m2 i = m i) ∧ (∀ k, k < 16 → m2 28 k = m 18 k) ∧ (∀ k, k < 16 → m2 29 k = m 19 k) ∧ (∀ k, k < 16 → m2 30 k = m 20 k) ∧ (∀ k, k < 16 → m2 31 k = m 21 k) ∧ (∀ k, k < 16 → m2 32 k = m 22 k) ∧ (∀ k, k < 16 → m2 33 k = m 23 k) ∧ (∀ k, k < 16 → m2 34 k = m 24 k) ∧ (∀ k, k < 4 → m2 35 k = m 25 k) ∧ (∀ k, k < 4 → m2 36 k = m 26 k) ∧ m2 27 9 = m 17 9 ∧ m2 27 10 = m 17 10 := by
  obtain ⟨x1, h1⟩ : ∃ x, x = bcpy m 18 28 0 0 16 := ⟨_, rfl⟩
  have o1 : ∀ i, i ≠ 28 → x1 i = m i := fun i hi => by rw [h1, bcpy_ne _ _ _ _ _ _ hi]
  have v1 : ∀ k, k < 16 → x1 28 k = m 18 k := fun k hk => by rw [h1, bcpy_c, if_pos (cpz hk), cpk]
  obtain ⟨x2, h2⟩ : ∃ x, x = bcpy x1 19 29 0 0 16 := ⟨_, rfl⟩
  have o2 : ∀ i, i ≠ 29 → x2 i = x1 i := fun i hi => by rw [h2, bcpy_ne _ _ _ _ _ _ hi]
  have v2 : ∀ k, k < 16 → x2 29 k = x1 19 k := fun k hk => by rw [h2, bcpy_c, if_pos (cpz hk), cpk]
  obtain ⟨x3, h3⟩ : ∃ x, x = bcpy x2 20 30 0 0 16 := ⟨_, rfl⟩
  have o3 : ∀ i, i ≠ 30 → x3 i = x2 i := fun i hi => by rw [h3, bcpy_ne _ _ _ _ _ _ hi]
  have v3 : ∀ k, k < 16 → x3 30 k = x2 20 k := fun k hk => by rw [h3, bcpy_c, if_pos (cpz hk), cpk]
  obtain ⟨x4, h4⟩ : ∃ x, x = bcpy x3 21 31 0 0 16 := ⟨_, rfl⟩
  have o4 : ∀ i, i ≠ 31 → x4 i = x3 i := fun i hi => by rw [h4, bcpy_ne _ _ _ _ _ _ hi]
  have v4 : ∀ k, k < 16 → x4 31 k = x3 21 k := fun k hk => by rw [h4, bcpy_c, if_pos (cpz hk), cpk]
  obtain ⟨x5, h5⟩ : ∃ x, x = bcpy x4 22 32 0 0 16 := ⟨_, rfl⟩
  have o5 : ∀ i, i ≠ 32 → x5 i = x4 i := fun i hi => by rw [h5, bcpy_ne _ _ _ _ _ _ hi]
  have v5 : ∀ k, k < 16 → x5 32 k = x4 22 k := fun k hk => by rw [h5, bcpy_c, if_pos (cpz hk), cpk]
  obtain ⟨x6, h6⟩ : ∃ x, x = bcpy x5 23 33 0 0 16 := ⟨_, rfl⟩
  have o6 : ∀ i, i ≠ 33 → x6 i = x5 i := fun i hi => by rw [h6, bcpy_ne _ _ _ _ _ _ hi]
  have v6 : ∀ k, k < 16 → x6 33 k = x5 23 k := fun k hk => by rw [h6, bcpy_c, if_pos (cpz hk), cpk]
  obtain ⟨x7, h7⟩ : ∃ x, x = bcpy x6 24 34 0 0 16 := ⟨_, rfl⟩
  have o7 : ∀ i, i ≠ 34 → x7 i = x6 i := fun i hi => by rw [h7, bcpy_ne _ _ _ _ _ _ hi]
  have v7 : ∀ k, k < 16 → x7 34 k = x6 24 k := fun k hk => by rw [h7, bcpy_c, if_pos (cpz hk), cpk]
  obtain ⟨x8, h8⟩ : ∃ x, x = bcpy x7 25 35 0 0 4 := ⟨_, rfl⟩
  have o8 : ∀ i, i ≠ 35 → x8 i = x7 i := fun i hi => by rw [h8, bcpy_ne _ _ _ _ _ _ hi]
  have v8 : ∀ k, k < 4 → x8 35 k = x7 25 k := fun k hk => by rw [h8, bcpy_c, if_pos (cpz hk), cpk]
  obtain ⟨x9, h9⟩ : ∃ x, x = bcpy x8 26 36 0 0 4 := ⟨_, rfl⟩
  have o9 : ∀ i, i ≠ 36 → x9 i = x8 i := fun i hi => by rw [h9, bcpy_ne _ _ _ _ _ _ hi]
  have v9 : ∀ k, k < 4 → x9 36 k = x8 26 k := fun k hk => by rw [h9, bcpy_c, if_pos (cpz hk), cpk]
  obtain ⟨x10, h10⟩ : ∃ x, x = bwr x9 27 9 (x9 17 9) := ⟨_, rfl⟩
  have o10 : ∀ i, i ≠ 27 → x10 i = x9 i := fun i hi => by rw [h10, bwr_ne _ _ hi]
  have p10 : ∀ k, k ≠ 9 → x10 27 k = x9 27 k := fun k hk => by rw [h10, bwr_ne2 _ hk]
  have v10 : x10 27 9 = x9 17 9 := by rw [h10, bwr_eq2]
  obtain ⟨x11, h11⟩ : ∃ x, x = bwr x10 27 10 (x10 17 10) := ⟨_, rfl⟩
  have o11 : ∀ i, i ≠ 27 → x11 i = x10 i := fun i hi => by rw [h11, bwr_ne _ _ hi]
  have p11 : ∀ k, k ≠ 10 → x11 27 k = x10 27 k := fun k hk => by rw [h11, bwr_ne2 _ hk]
  have v11 : x11 27 10 = x10 17 10 := by rw [h11, bwr_eq2]
  refine ⟨x11, ?_, ?_, ?_, ?_, ?_, ?_, ?_, ?_, ?_, ?_, ?_, ?_, ?_⟩
  · rw [st_Seen_copyFrom]
    unfold B_Seen_copyFrom
    rw [q_copy 16 18 28 rfl rfl rfl rfl (by decide) (by decide) (by decide), show (16 : Int).toNat = 16 from rfl, ← h1]
    rw [q_copy 16 19 29 rfl rfl rfl rfl (by decide) (by decide) (by decide), show (16 : Int).toNat = 16 from rfl, ← h2]
    rw [q_copy 16 20 30 rfl rfl rfl rfl (by decide) (by decide) (by decide), show (16 : Int).toNat = 16 from rfl, ← h3]
    rw [q_copy 16 21 31 rfl rfl rfl rfl (by decide) (by decide) (by decide), show (16 : Int).toNat = 16 from rfl, ← h4]
    rw [q_copy 16 22 32 rfl rfl rfl rfl (by decide) (by decide) (by decide), show (16 : Int).toNat = 16 from rfl, ← h5]
    rw [q_copy 16 23 33 rfl rfl rfl rfl (by decide) (by decide) (by decide), show (16 : Int).toNat = 16 from rfl, ← h6]
    rw [q_copy 16 24 34 rfl rfl rfl rfl (by decide) (by decide) (by decide), show (16 : Int).toNat = 16 from rfl, ← h7]
    rw [q_copy 4 25 35 rfl rfl rfl rfl (by decide) (by decide) (by decide), show (4 : Int).toNat = 4 from rfl, ← h8]
    rw [q_copy 4 26 36 rfl rfl rfl rfl (by decide) (by decide) (by decide), show (4 : Int).toNat = 4 from rfl, ← h9]
    simp only [kr_Seen_copyFrom, ← h10, ← h11, d_rLoc1, d_rLoc2, d_rFld1, d_rFld2, d_eInt, d_eLdc, d_eLdw, d_eLoc, d_eFld, d_lFld, d_eAI, d_eAZ, d_eAB, d_lAL, d_eAD, d_eLen, d_eAdd, d_eSub, d_eMul, d_eAnd, d_eOr, d_eXor, d_eShl, d_eShr, d_eUsh, d_lAdd, d_lSub, d_lMul, d_lAnd, d_lOr, d_lXor, d_lShl, d_lShr, d_eDiv, d_eRem, d_eCmp, d_eI2B, d_eI2S, d_eL2I, d_lI2L, d_lInt, d_lLdc, d_lLoc, d_eIte, d_lIte, d_eMax, d_eMin, d_eAbs, d_eAbove, d_eBodies, d_cQ, d_cZ, d_cNot, d_cAnd, d_cOr, d_gNil, d_gI, d_gL, d_gR, d_gD, d_xV, d_xS, d_xN, d_xT, d_eCall, d_lCall, d_eCallC, d_sNop, d_sSet, d_sSetL, d_sSetR, d_sSetQ, d_sInc, d_sPutI, d_sPutZ, d_sPutL, d_sPutA, d_sPutAZ, d_sPutAB, d_sPutAL, d_sPutD, d_sOpF, d_sOpA, d_sCall, d_sCopy, d_sSeq, d_sIf, d_sBrk, d_sCnt, d_sRetV, d_sRet, d_sRetL, d_sLp, d_tDef, d_tCase, d_sSw, d_sSwB, bIt_d, itb_0, itb_1, itb_2, itb_r, its_0, sqk_0, sqk_1, sqk_2, sqk_r, swk_0, swk_1, swk_r, bfin_r, bfin_ite, Option.bind_some, Option.map_some, Option.bind_none, Option.map_none, bind_ite, map_ite, cop0, cop1, cop2, cop3, cop4, cop5, opv0, opv1, opv2, opv3, brc_i, brc_z, two_ne_one, false_or, getI, getR, getL, List.getElem?_cons_zero, List.getElem?_cons_succ, List.set_cons_zero, List.set_cons_succ, bnl, if_true, if_false, true_or, or_true, decide_eq_true_eq, Bool.not_eq_true', decide_eq_false_iff_not, Bool.not_true, Bool.not_false, Bool.true_eq_false, Bool.false_eq_true, ite_not, reduceIte, ite01_0, ite01_1, Decidable.not_not, ne_eq, not_true_eq_false, not_false_eq_true, Function.comp_apply, decide_not, Bool.not_not, Bool.not_eq_false', dc_t, dc_f, and_self, true_and, and_true, and_false, false_and, tnc, Int.reduceLT, Int.reduceLE, Int.reduceEq, Int.reduceAdd, Int.reduceSub, Int.reduceMul, Int.reduceToNat, Int.reduceNeg, Int.reduceNe]
  · intro i hi
    rw [o11 i (by omega), o10 i (by omega), o9 i (by omega), o8 i (by omega), o7 i (by omega), o6 i (by omega), o5 i (by omega), o4 i (by omega), o3 i (by omega), o2 i (by omega), o1 i (by omega)]
  · intro k hk
    rw [o11 _ (by decide), o10 _ (by decide), o9 _ (by decide), o8 _ (by decide), o7 _ (by decide), o6 _ (by decide), o5 _ (by decide), o4 _ (by decide), o3 _ (by decide), o2 _ (by decide), v1 k hk]
  · intro k hk
    rw [o11 _ (by decide), o10 _ (by decide), o9 _ (by decide), o8 _ (by decide), o7 _ (by decide), o6 _ (by decide), o5 _ (by decide), o4 _ (by decide), o3 _ (by decide), v2 k hk, o1 _ (by decide)]
  · intro k hk
    rw [o11 _ (by decide), o10 _ (by decide), o9 _ (by decide), o8 _ (by decide), o7 _ (by decide), o6 _ (by decide), o5 _ (by decide), o4 _ (by decide), v3 k hk, o2 _ (by decide), o1 _ (by decide)]
  · intro k hk
    rw [o11 _ (by decide), o10 _ (by decide), o9 _ (by decide), o8 _ (by decide), o7 _ (by decide), o6 _ (by decide), o5 _ (by decide), v4 k hk, o3 _ (by decide), o2 _ (by decide), o1 _ (by decide)]
  · intro k hk
    rw [o11 _ (by decide), o10 _ (by decide), o9 _ (by decide), o8 _ (by decide), o7 _ (by decide), o6 _ (by decide), v5 k hk, o4 _ (by decide), o3 _ (by decide), o2 _ (by decide), o1 _ (by decide)]
  · intro k hk
    rw [o11 _ (by decide), o10 _ (by decide), o9 _ (by decide), o8 _ (by decide), o7 _ (by decide), v6 k hk, o5 _ (by decide), o4 _ (by decide), o3 _ (by decide), o2 _ (by decide), o1 _ (by decide)]
  · intro k hk
    rw [o11 _ (by decide), o10 _ (by decide), o9 _ (by decide), o8 _ (by decide), v7 k hk, o6 _ (by decide), o5 _ (by decide), o4 _ (by decide), o3 _ (by decide), o2 _ (by decide), o1 _ (by decide)]
  · intro k hk
    rw [o11 _ (by decide), o10 _ (by decide), o9 _ (by decide), v8 k hk, o7 _ (by decide), o6 _ (by decide), o5 _ (by decide), o4 _ (by decide), o3 _ (by decide), o2 _ (by decide), o1 _ (by decide)]
  · intro k hk
    rw [o11 _ (by decide), o10 _ (by decide), v9 k hk, o8 _ (by decide), o7 _ (by decide), o6 _ (by decide), o5 _ (by decide), o4 _ (by decide), o3 _ (by decide), o2 _ (by decide), o1 _ (by decide)]
  · rw [p11 _ (by decide), v10, o9 _ (by decide), o8 _ (by decide), o7 _ (by decide), o6 _ (by decide), o5 _ (by decide), o4 _ (by decide), o3 _ (by decide), o2 _ (by decide), o1 _ (by decide)]
  · rw [v11, o10 _ (by decide), o9 _ (by decide), o8 _ (by decide), o7 _ (by decide), o6 _ (by decide), o5 _ (by decide), o4 _ (by decide), o3 _ (by decide), o2 _ (by decide), o1 _ (by decide)]
theorem cp_Seen_copyFrom2 (n : Nat) (m : bM) : ∃ m2, sem (n + 1) 196 [aR 17, aR 27] m = some (m2, 0) ∧ (∀ i, (i < 17 ∨ 26 < i) → m2 i = m i) ∧ (∀ k, k < 16 → m2 18 k = m 28 k) ∧ (∀ k, k < 16 → m2 19 k = m 29 k) ∧ (∀ k, k < 16 → m2 20 k = m 30 k) ∧ (∀ k, k < 16 → m2 21 k = m 31 k) ∧ (∀ k, k < 16 → m2 22 k = m 32 k) ∧ (∀ k, k < 16 → m2 23 k = m 33 k) ∧ (∀ k, k < 16 → m2 24 k = m 34 k) ∧ (∀ k, k < 4 → m2 25 k = m 35 k) ∧ (∀ k, k < 4 → m2 26 k = m 36 k) ∧ m2 17 9 = m 27 9 ∧ m2 17 10 = m 27 10 := by
  obtain ⟨x1, h1⟩ : ∃ x, x = bcpy m 28 18 0 0 16 := ⟨_, rfl⟩
  have o1 : ∀ i, i ≠ 18 → x1 i = m i := fun i hi => by rw [h1, bcpy_ne _ _ _ _ _ _ hi]
  have v1 : ∀ k, k < 16 → x1 18 k = m 28 k := fun k hk => by rw [h1, bcpy_c, if_pos (cpz hk), cpk]
  obtain ⟨x2, h2⟩ : ∃ x, x = bcpy x1 29 19 0 0 16 := ⟨_, rfl⟩
  have o2 : ∀ i, i ≠ 19 → x2 i = x1 i := fun i hi => by rw [h2, bcpy_ne _ _ _ _ _ _ hi]
  have v2 : ∀ k, k < 16 → x2 19 k = x1 29 k := fun k hk => by rw [h2, bcpy_c, if_pos (cpz hk), cpk]
  obtain ⟨x3, h3⟩ : ∃ x, x = bcpy x2 30 20 0 0 16 := ⟨_, rfl⟩
  have o3 : ∀ i, i ≠ 20 → x3 i = x2 i := fun i hi => by rw [h3, bcpy_ne _ _ _ _ _ _ hi]
  have v3 : ∀ k, k < 16 → x3 20 k = x2 30 k := fun k hk => by rw [h3, bcpy_c, if_pos (cpz hk), cpk]
  obtain ⟨x4, h4⟩ : ∃ x, x = bcpy x3 31 21 0 0 16 := ⟨_, rfl⟩
  have o4 : ∀ i, i ≠ 21 → x4 i = x3 i := fun i hi => by rw [h4, bcpy_ne _ _ _ _ _ _ hi]
  have v4 : ∀ k, k < 16 → x4 21 k = x3 31 k := fun k hk => by rw [h4, bcpy_c, if_pos (cpz hk), cpk]
  obtain ⟨x5, h5⟩ : ∃ x, x = bcpy x4 32 22 0 0 16 := ⟨_, rfl⟩
  have o5 : ∀ i, i ≠ 22 → x5 i = x4 i := fun i hi => by rw [h5, bcpy_ne _ _ _ _ _ _ hi]
  have v5 : ∀ k, k < 16 → x5 22 k = x4 32 k := fun k hk => by rw [h5, bcpy_c, if_pos (cpz hk), cpk]
  obtain ⟨x6, h6⟩ : ∃ x, x = bcpy x5 33 23 0 0 16 := ⟨_, rfl⟩
  have o6 : ∀ i, i ≠ 23 → x6 i = x5 i := fun i hi => by rw [h6, bcpy_ne _ _ _ _ _ _ hi]
  have v6 : ∀ k, k < 16 → x6 23 k = x5 33 k := fun k hk => by rw [h6, bcpy_c, if_pos (cpz hk), cpk]
  obtain ⟨x7, h7⟩ : ∃ x, x = bcpy x6 34 24 0 0 16 := ⟨_, rfl⟩
  have o7 : ∀ i, i ≠ 24 → x7 i = x6 i := fun i hi => by rw [h7, bcpy_ne _ _ _ _ _ _ hi]
  have v7 : ∀ k, k < 16 → x7 24 k = x6 34 k := fun k hk => by rw [h7, bcpy_c, if_pos (cpz hk), cpk]
  obtain ⟨x8, h8⟩ : ∃ x, x = bcpy x7 35 25 0 0 4 := ⟨_, rfl⟩
  have o8 : ∀ i, i ≠ 25 → x8 i = x7 i := fun i hi => by rw [h8, bcpy_ne _ _ _ _ _ _ hi]
  have v8 : ∀ k, k < 4 → x8 25 k = x7 35 k := fun k hk => by rw [h8, bcpy_c, if_pos (cpz hk), cpk]
  obtain ⟨x9, h9⟩ : ∃ x, x = bcpy x8 36 26 0 0 4 := ⟨_, rfl⟩
  have o9 : ∀ i, i ≠ 26 → x9 i = x8 i := fun i hi => by rw [h9, bcpy_ne _ _ _ _ _ _ hi]
  have v9 : ∀ k, k < 4 → x9 26 k = x8 36 k := fun k hk => by rw [h9, bcpy_c, if_pos (cpz hk), cpk]
  obtain ⟨x10, h10⟩ : ∃ x, x = bwr x9 17 9 (x9 27 9) := ⟨_, rfl⟩
  have o10 : ∀ i, i ≠ 17 → x10 i = x9 i := fun i hi => by rw [h10, bwr_ne _ _ hi]
  have p10 : ∀ k, k ≠ 9 → x10 17 k = x9 17 k := fun k hk => by rw [h10, bwr_ne2 _ hk]
  have v10 : x10 17 9 = x9 27 9 := by rw [h10, bwr_eq2]
  obtain ⟨x11, h11⟩ : ∃ x, x = bwr x10 17 10 (x10 27 10) := ⟨_, rfl⟩
  have o11 : ∀ i, i ≠ 17 → x11 i = x10 i := fun i hi => by rw [h11, bwr_ne _ _ hi]
  have p11 : ∀ k, k ≠ 10 → x11 17 k = x10 17 k := fun k hk => by rw [h11, bwr_ne2 _ hk]
  have v11 : x11 17 10 = x10 27 10 := by rw [h11, bwr_eq2]
  refine ⟨x11, ?_, ?_, ?_, ?_, ?_, ?_, ?_, ?_, ?_, ?_, ?_, ?_, ?_⟩
  · rw [st_Seen_copyFrom2]
    unfold B_Seen_copyFrom2
    rw [q_copy 16 28 18 rfl rfl rfl rfl (by decide) (by decide) (by decide), show (16 : Int).toNat = 16 from rfl, ← h1]
    rw [q_copy 16 29 19 rfl rfl rfl rfl (by decide) (by decide) (by decide), show (16 : Int).toNat = 16 from rfl, ← h2]
    rw [q_copy 16 30 20 rfl rfl rfl rfl (by decide) (by decide) (by decide), show (16 : Int).toNat = 16 from rfl, ← h3]
    rw [q_copy 16 31 21 rfl rfl rfl rfl (by decide) (by decide) (by decide), show (16 : Int).toNat = 16 from rfl, ← h4]
    rw [q_copy 16 32 22 rfl rfl rfl rfl (by decide) (by decide) (by decide), show (16 : Int).toNat = 16 from rfl, ← h5]
    rw [q_copy 16 33 23 rfl rfl rfl rfl (by decide) (by decide) (by decide), show (16 : Int).toNat = 16 from rfl, ← h6]
    rw [q_copy 16 34 24 rfl rfl rfl rfl (by decide) (by decide) (by decide), show (16 : Int).toNat = 16 from rfl, ← h7]
    rw [q_copy 4 35 25 rfl rfl rfl rfl (by decide) (by decide) (by decide), show (4 : Int).toNat = 4 from rfl, ← h8]
    rw [q_copy 4 36 26 rfl rfl rfl rfl (by decide) (by decide) (by decide), show (4 : Int).toNat = 4 from rfl, ← h9]
    simp only [kr_Seen_copyFrom2, ← h10, ← h11, d_rLoc1, d_rLoc2, d_rFld1, d_rFld2, d_eInt, d_eLdc, d_eLdw, d_eLoc, d_eFld, d_lFld, d_eAI, d_eAZ, d_eAB, d_lAL, d_eAD, d_eLen, d_eAdd, d_eSub, d_eMul, d_eAnd, d_eOr, d_eXor, d_eShl, d_eShr, d_eUsh, d_lAdd, d_lSub, d_lMul, d_lAnd, d_lOr, d_lXor, d_lShl, d_lShr, d_eDiv, d_eRem, d_eCmp, d_eI2B, d_eI2S, d_eL2I, d_lI2L, d_lInt, d_lLdc, d_lLoc, d_eIte, d_lIte, d_eMax, d_eMin, d_eAbs, d_eAbove, d_eBodies, d_cQ, d_cZ, d_cNot, d_cAnd, d_cOr, d_gNil, d_gI, d_gL, d_gR, d_gD, d_xV, d_xS, d_xN, d_xT, d_eCall, d_lCall, d_eCallC, d_sNop, d_sSet, d_sSetL, d_sSetR, d_sSetQ, d_sInc, d_sPutI, d_sPutZ, d_sPutL, d_sPutA, d_sPutAZ, d_sPutAB, d_sPutAL, d_sPutD, d_sOpF, d_sOpA, d_sCall, d_sCopy, d_sSeq, d_sIf, d_sBrk, d_sCnt, d_sRetV, d_sRet, d_sRetL, d_sLp, d_tDef, d_tCase, d_sSw, d_sSwB, bIt_d, itb_0, itb_1, itb_2, itb_r, its_0, sqk_0, sqk_1, sqk_2, sqk_r, swk_0, swk_1, swk_r, bfin_r, bfin_ite, Option.bind_some, Option.map_some, Option.bind_none, Option.map_none, bind_ite, map_ite, cop0, cop1, cop2, cop3, cop4, cop5, opv0, opv1, opv2, opv3, brc_i, brc_z, two_ne_one, false_or, getI, getR, getL, List.getElem?_cons_zero, List.getElem?_cons_succ, List.set_cons_zero, List.set_cons_succ, bnl, if_true, if_false, true_or, or_true, decide_eq_true_eq, Bool.not_eq_true', decide_eq_false_iff_not, Bool.not_true, Bool.not_false, Bool.true_eq_false, Bool.false_eq_true, ite_not, reduceIte, ite01_0, ite01_1, Decidable.not_not, ne_eq, not_true_eq_false, not_false_eq_true, Function.comp_apply, decide_not, Bool.not_not, Bool.not_eq_false', dc_t, dc_f, and_self, true_and, and_true, and_false, false_and, tnc, Int.reduceLT, Int.reduceLE, Int.reduceEq, Int.reduceAdd, Int.reduceSub, Int.reduceMul, Int.reduceToNat, Int.reduceNeg, Int.reduceNe]
  · intro i hi
    rw [o11 i (by omega), o10 i (by omega), o9 i (by omega), o8 i (by omega), o7 i (by omega), o6 i (by omega), o5 i (by omega), o4 i (by omega), o3 i (by omega), o2 i (by omega), o1 i (by omega)]
  · intro k hk
    rw [o11 _ (by decide), o10 _ (by decide), o9 _ (by decide), o8 _ (by decide), o7 _ (by decide), o6 _ (by decide), o5 _ (by decide), o4 _ (by decide), o3 _ (by decide), o2 _ (by decide), v1 k hk]
  · intro k hk
    rw [o11 _ (by decide), o10 _ (by decide), o9 _ (by decide), o8 _ (by decide), o7 _ (by decide), o6 _ (by decide), o5 _ (by decide), o4 _ (by decide), o3 _ (by decide), v2 k hk, o1 _ (by decide)]
  · intro k hk
    rw [o11 _ (by decide), o10 _ (by decide), o9 _ (by decide), o8 _ (by decide), o7 _ (by decide), o6 _ (by decide), o5 _ (by decide), o4 _ (by decide), v3 k hk, o2 _ (by decide), o1 _ (by decide)]
  · intro k hk
    rw [o11 _ (by decide), o10 _ (by decide), o9 _ (by decide), o8 _ (by decide), o7 _ (by decide), o6 _ (by decide), o5 _ (by decide), v4 k hk, o3 _ (by decide), o2 _ (by decide), o1 _ (by decide)]
  · intro k hk
    rw [o11 _ (by decide), o10 _ (by decide), o9 _ (by decide), o8 _ (by decide), o7 _ (by decide), o6 _ (by decide), v5 k hk, o4 _ (by decide), o3 _ (by decide), o2 _ (by decide), o1 _ (by decide)]
  · intro k hk
    rw [o11 _ (by decide), o10 _ (by decide), o9 _ (by decide), o8 _ (by decide), o7 _ (by decide), v6 k hk, o5 _ (by decide), o4 _ (by decide), o3 _ (by decide), o2 _ (by decide), o1 _ (by decide)]
  · intro k hk
    rw [o11 _ (by decide), o10 _ (by decide), o9 _ (by decide), o8 _ (by decide), v7 k hk, o6 _ (by decide), o5 _ (by decide), o4 _ (by decide), o3 _ (by decide), o2 _ (by decide), o1 _ (by decide)]
  · intro k hk
    rw [o11 _ (by decide), o10 _ (by decide), o9 _ (by decide), v8 k hk, o7 _ (by decide), o6 _ (by decide), o5 _ (by decide), o4 _ (by decide), o3 _ (by decide), o2 _ (by decide), o1 _ (by decide)]
  · intro k hk
    rw [o11 _ (by decide), o10 _ (by decide), v9 k hk, o8 _ (by decide), o7 _ (by decide), o6 _ (by decide), o5 _ (by decide), o4 _ (by decide), o3 _ (by decide), o2 _ (by decide), o1 _ (by decide)]
  · rw [p11 _ (by decide), v10, o9 _ (by decide), o8 _ (by decide), o7 _ (by decide), o6 _ (by decide), o5 _ (by decide), o4 _ (by decide), o3 _ (by decide), o2 _ (by decide), o1 _ (by decide)]
  · rw [v11, o10 _ (by decide), o9 _ (by decide), o8 _ (by decide), o7 _ (by decide), o6 _ (by decide), o5 _ (by decide), o4 _ (by decide), o3 _ (by decide), o2 _ (by decide), o1 _ (by decide)]
theorem cp_Folk_copyFrom (n : Nat) (m : bM) : ∃ m2, sem (n + 1) 192 [aR 50, aR 37] m = some (m2, 0) ∧ (∀ i, (i < 50 ∨ 62 < i) → m2 i = m i) ∧ (∀ k, k < 16 → m2 51 k = m 38 k) ∧ (∀ k, k < 16 → m2 52 k = m 39 k) ∧ (∀ k, k < 16 → m2 53 k = m 40 k) ∧ (∀ k, k < 16 → m2 54 k = m 41 k) ∧ (∀ k, k < 16 → m2 55 k = m 42 k) ∧ (∀ k, k < 16 → m2 56 k = m 43 k) ∧ (∀ k, k < 12 → m2 57 k = m 44 k) ∧ (∀ k, k < 12 → m2 58 k = m 45 k) ∧ (∀ k, k < 12 → m2 59 k = m 46 k) ∧ (∀ k, k < 12 → m2 60 k = m 47 k) ∧ (∀ k, k < 12 → m2 61 k = m 48 k) ∧ (∀ k, k < 12 → m2 62 k = m 49 k) ∧ m2 50 12 = m 37 12 ∧ m2 50 13 = m 37 13 ∧ m2 50 14 = m 37 14 ∧ m2 50 15 = m 37 15 := by
  obtain ⟨x1, h1⟩ : ∃ x, x = bcpy m 38 51 0 0 16 := ⟨_, rfl⟩
  have o1 : ∀ i, i ≠ 51 → x1 i = m i := fun i hi => by rw [h1, bcpy_ne _ _ _ _ _ _ hi]
  have v1 : ∀ k, k < 16 → x1 51 k = m 38 k := fun k hk => by rw [h1, bcpy_c, if_pos (cpz hk), cpk]
  obtain ⟨x2, h2⟩ : ∃ x, x = bcpy x1 39 52 0 0 16 := ⟨_, rfl⟩
  have o2 : ∀ i, i ≠ 52 → x2 i = x1 i := fun i hi => by rw [h2, bcpy_ne _ _ _ _ _ _ hi]
  have v2 : ∀ k, k < 16 → x2 52 k = x1 39 k := fun k hk => by rw [h2, bcpy_c, if_pos (cpz hk), cpk]
  obtain ⟨x3, h3⟩ : ∃ x, x = bcpy x2 40 53 0 0 16 := ⟨_, rfl⟩
  have o3 : ∀ i, i ≠ 53 → x3 i = x2 i := fun i hi => by rw [h3, bcpy_ne _ _ _ _ _ _ hi]
  have v3 : ∀ k, k < 16 → x3 53 k = x2 40 k := fun k hk => by rw [h3, bcpy_c, if_pos (cpz hk), cpk]
  obtain ⟨x4, h4⟩ : ∃ x, x = bcpy x3 41 54 0 0 16 := ⟨_, rfl⟩
  have o4 : ∀ i, i ≠ 54 → x4 i = x3 i := fun i hi => by rw [h4, bcpy_ne _ _ _ _ _ _ hi]
  have v4 : ∀ k, k < 16 → x4 54 k = x3 41 k := fun k hk => by rw [h4, bcpy_c, if_pos (cpz hk), cpk]
  obtain ⟨x5, h5⟩ : ∃ x, x = bcpy x4 42 55 0 0 16 := ⟨_, rfl⟩
  have o5 : ∀ i, i ≠ 55 → x5 i = x4 i := fun i hi => by rw [h5, bcpy_ne _ _ _ _ _ _ hi]
  have v5 : ∀ k, k < 16 → x5 55 k = x4 42 k := fun k hk => by rw [h5, bcpy_c, if_pos (cpz hk), cpk]
  obtain ⟨x6, h6⟩ : ∃ x, x = bcpy x5 43 56 0 0 16 := ⟨_, rfl⟩
  have o6 : ∀ i, i ≠ 56 → x6 i = x5 i := fun i hi => by rw [h6, bcpy_ne _ _ _ _ _ _ hi]
  have v6 : ∀ k, k < 16 → x6 56 k = x5 43 k := fun k hk => by rw [h6, bcpy_c, if_pos (cpz hk), cpk]
  obtain ⟨x7, h7⟩ : ∃ x, x = bcpy x6 44 57 0 0 12 := ⟨_, rfl⟩
  have o7 : ∀ i, i ≠ 57 → x7 i = x6 i := fun i hi => by rw [h7, bcpy_ne _ _ _ _ _ _ hi]
  have v7 : ∀ k, k < 12 → x7 57 k = x6 44 k := fun k hk => by rw [h7, bcpy_c, if_pos (cpz hk), cpk]
  obtain ⟨x8, h8⟩ : ∃ x, x = bcpy x7 45 58 0 0 12 := ⟨_, rfl⟩
  have o8 : ∀ i, i ≠ 58 → x8 i = x7 i := fun i hi => by rw [h8, bcpy_ne _ _ _ _ _ _ hi]
  have v8 : ∀ k, k < 12 → x8 58 k = x7 45 k := fun k hk => by rw [h8, bcpy_c, if_pos (cpz hk), cpk]
  obtain ⟨x9, h9⟩ : ∃ x, x = bcpy x8 46 59 0 0 12 := ⟨_, rfl⟩
  have o9 : ∀ i, i ≠ 59 → x9 i = x8 i := fun i hi => by rw [h9, bcpy_ne _ _ _ _ _ _ hi]
  have v9 : ∀ k, k < 12 → x9 59 k = x8 46 k := fun k hk => by rw [h9, bcpy_c, if_pos (cpz hk), cpk]
  obtain ⟨x10, h10⟩ : ∃ x, x = bcpy x9 47 60 0 0 12 := ⟨_, rfl⟩
  have o10 : ∀ i, i ≠ 60 → x10 i = x9 i := fun i hi => by rw [h10, bcpy_ne _ _ _ _ _ _ hi]
  have v10 : ∀ k, k < 12 → x10 60 k = x9 47 k := fun k hk => by rw [h10, bcpy_c, if_pos (cpz hk), cpk]
  obtain ⟨x11, h11⟩ : ∃ x, x = bcpy x10 48 61 0 0 12 := ⟨_, rfl⟩
  have o11 : ∀ i, i ≠ 61 → x11 i = x10 i := fun i hi => by rw [h11, bcpy_ne _ _ _ _ _ _ hi]
  have v11 : ∀ k, k < 12 → x11 61 k = x10 48 k := fun k hk => by rw [h11, bcpy_c, if_pos (cpz hk), cpk]
  obtain ⟨x12, h12⟩ : ∃ x, x = bcpy x11 49 62 0 0 12 := ⟨_, rfl⟩
  have o12 : ∀ i, i ≠ 62 → x12 i = x11 i := fun i hi => by rw [h12, bcpy_ne _ _ _ _ _ _ hi]
  have v12 : ∀ k, k < 12 → x12 62 k = x11 49 k := fun k hk => by rw [h12, bcpy_c, if_pos (cpz hk), cpk]
  obtain ⟨x13, h13⟩ : ∃ x, x = bwr x12 50 12 (x12 37 12) := ⟨_, rfl⟩
  have o13 : ∀ i, i ≠ 50 → x13 i = x12 i := fun i hi => by rw [h13, bwr_ne _ _ hi]
  have p13 : ∀ k, k ≠ 12 → x13 50 k = x12 50 k := fun k hk => by rw [h13, bwr_ne2 _ hk]
  have v13 : x13 50 12 = x12 37 12 := by rw [h13, bwr_eq2]
  obtain ⟨x14, h14⟩ : ∃ x, x = bwr x13 50 13 (x13 37 13) := ⟨_, rfl⟩
  have o14 : ∀ i, i ≠ 50 → x14 i = x13 i := fun i hi => by rw [h14, bwr_ne _ _ hi]
  have p14 : ∀ k, k ≠ 13 → x14 50 k = x13 50 k := fun k hk => by rw [h14, bwr_ne2 _ hk]
  have v14 : x14 50 13 = x13 37 13 := by rw [h14, bwr_eq2]
  obtain ⟨x15, h15⟩ : ∃ x, x = bwr x14 50 14 (x14 37 14) := ⟨_, rfl⟩
  have o15 : ∀ i, i ≠ 50 → x15 i = x14 i := fun i hi => by rw [h15, bwr_ne _ _ hi]
  have p15 : ∀ k, k ≠ 14 → x15 50 k = x14 50 k := fun k hk => by rw [h15, bwr_ne2 _ hk]
  have v15 : x15 50 14 = x14 37 14 := by rw [h15, bwr_eq2]
  obtain ⟨x16, h16⟩ : ∃ x, x = bwr x15 50 15 (x15 37 15) := ⟨_, rfl⟩
  have o16 : ∀ i, i ≠ 50 → x16 i = x15 i := fun i hi => by rw [h16, bwr_ne _ _ hi]
  have p16 : ∀ k, k ≠ 15 → x16 50 k = x15 50 k := fun k hk => by rw [h16, bwr_ne2 _ hk]
  have v16 : x16 50 15 = x15 37 15 := by rw [h16, bwr_eq2]
  refine ⟨x16, ?_, ?_, ?_, ?_, ?_, ?_, ?_, ?_, ?_, ?_, ?_, ?_, ?_, ?_, ?_, ?_, ?_, ?_⟩
  · rw [st_Folk_copyFrom]
    unfold B_Folk_copyFrom
    rw [q_copy 16 38 51 rfl rfl rfl rfl (by decide) (by decide) (by decide), show (16 : Int).toNat = 16 from rfl, ← h1]
    rw [q_copy 16 39 52 rfl rfl rfl rfl (by decide) (by decide) (by decide), show (16 : Int).toNat = 16 from rfl, ← h2]
    rw [q_copy 16 40 53 rfl rfl rfl rfl (by decide) (by decide) (by decide), show (16 : Int).toNat = 16 from rfl, ← h3]
    rw [q_copy 16 41 54 rfl rfl rfl rfl (by decide) (by decide) (by decide), show (16 : Int).toNat = 16 from rfl, ← h4]
    rw [q_copy 16 42 55 rfl rfl rfl rfl (by decide) (by decide) (by decide), show (16 : Int).toNat = 16 from rfl, ← h5]
    rw [q_copy 16 43 56 rfl rfl rfl rfl (by decide) (by decide) (by decide), show (16 : Int).toNat = 16 from rfl, ← h6]
    rw [q_copy 12 44 57 rfl rfl rfl rfl (by decide) (by decide) (by decide), show (12 : Int).toNat = 12 from rfl, ← h7]
    rw [q_copy 12 45 58 rfl rfl rfl rfl (by decide) (by decide) (by decide), show (12 : Int).toNat = 12 from rfl, ← h8]
    rw [q_copy 12 46 59 rfl rfl rfl rfl (by decide) (by decide) (by decide), show (12 : Int).toNat = 12 from rfl, ← h9]
    rw [q_copy 12 47 60 rfl rfl rfl rfl (by decide) (by decide) (by decide), show (12 : Int).toNat = 12 from rfl, ← h10]
    rw [q_copy 12 48 61 rfl rfl rfl rfl (by decide) (by decide) (by decide), show (12 : Int).toNat = 12 from rfl, ← h11]
    rw [q_copy 12 49 62 rfl rfl rfl rfl (by decide) (by decide) (by decide), show (12 : Int).toNat = 12 from rfl, ← h12]
    simp only [kr_Folk_copyFrom, ← h13, ← h14, ← h15, ← h16, d_rLoc1, d_rLoc2, d_rFld1, d_rFld2, d_eInt, d_eLdc, d_eLdw, d_eLoc, d_eFld, d_lFld, d_eAI, d_eAZ, d_eAB, d_lAL, d_eAD, d_eLen, d_eAdd, d_eSub, d_eMul, d_eAnd, d_eOr, d_eXor, d_eShl, d_eShr, d_eUsh, d_lAdd, d_lSub, d_lMul, d_lAnd, d_lOr, d_lXor, d_lShl, d_lShr, d_eDiv, d_eRem, d_eCmp, d_eI2B, d_eI2S, d_eL2I, d_lI2L, d_lInt, d_lLdc, d_lLoc, d_eIte, d_lIte, d_eMax, d_eMin, d_eAbs, d_eAbove, d_eBodies, d_cQ, d_cZ, d_cNot, d_cAnd, d_cOr, d_gNil, d_gI, d_gL, d_gR, d_gD, d_xV, d_xS, d_xN, d_xT, d_eCall, d_lCall, d_eCallC, d_sNop, d_sSet, d_sSetL, d_sSetR, d_sSetQ, d_sInc, d_sPutI, d_sPutZ, d_sPutL, d_sPutA, d_sPutAZ, d_sPutAB, d_sPutAL, d_sPutD, d_sOpF, d_sOpA, d_sCall, d_sCopy, d_sSeq, d_sIf, d_sBrk, d_sCnt, d_sRetV, d_sRet, d_sRetL, d_sLp, d_tDef, d_tCase, d_sSw, d_sSwB, bIt_d, itb_0, itb_1, itb_2, itb_r, its_0, sqk_0, sqk_1, sqk_2, sqk_r, swk_0, swk_1, swk_r, bfin_r, bfin_ite, Option.bind_some, Option.map_some, Option.bind_none, Option.map_none, bind_ite, map_ite, cop0, cop1, cop2, cop3, cop4, cop5, opv0, opv1, opv2, opv3, brc_i, brc_z, two_ne_one, false_or, getI, getR, getL, List.getElem?_cons_zero, List.getElem?_cons_succ, List.set_cons_zero, List.set_cons_succ, bnl, if_true, if_false, true_or, or_true, decide_eq_true_eq, Bool.not_eq_true', decide_eq_false_iff_not, Bool.not_true, Bool.not_false, Bool.true_eq_false, Bool.false_eq_true, ite_not, reduceIte, ite01_0, ite01_1, Decidable.not_not, ne_eq, not_true_eq_false, not_false_eq_true, Function.comp_apply, decide_not, Bool.not_not, Bool.not_eq_false', dc_t, dc_f, and_self, true_and, and_true, and_false, false_and, tnc, Int.reduceLT, Int.reduceLE, Int.reduceEq, Int.reduceAdd, Int.reduceSub, Int.reduceMul, Int.reduceToNat, Int.reduceNeg, Int.reduceNe]
  · intro i hi
    rw [o16 i (by omega), o15 i (by omega), o14 i (by omega), o13 i (by omega), o12 i (by omega), o11 i (by omega), o10 i (by omega), o9 i (by omega), o8 i (by omega), o7 i (by omega), o6 i (by omega), o5 i (by omega), o4 i (by omega), o3 i (by omega), o2 i (by omega), o1 i (by omega)]
  · intro k hk
    rw [o16 _ (by decide), o15 _ (by decide), o14 _ (by decide), o13 _ (by decide), o12 _ (by decide), o11 _ (by decide), o10 _ (by decide), o9 _ (by decide), o8 _ (by decide), o7 _ (by decide), o6 _ (by decide), o5 _ (by decide), o4 _ (by decide), o3 _ (by decide), o2 _ (by decide), v1 k hk]
  · intro k hk
    rw [o16 _ (by decide), o15 _ (by decide), o14 _ (by decide), o13 _ (by decide), o12 _ (by decide), o11 _ (by decide), o10 _ (by decide), o9 _ (by decide), o8 _ (by decide), o7 _ (by decide), o6 _ (by decide), o5 _ (by decide), o4 _ (by decide), o3 _ (by decide), v2 k hk, o1 _ (by decide)]
  · intro k hk
    rw [o16 _ (by decide), o15 _ (by decide), o14 _ (by decide), o13 _ (by decide), o12 _ (by decide), o11 _ (by decide), o10 _ (by decide), o9 _ (by decide), o8 _ (by decide), o7 _ (by decide), o6 _ (by decide), o5 _ (by decide), o4 _ (by decide), v3 k hk, o2 _ (by decide), o1 _ (by decide)]
  · intro k hk
    rw [o16 _ (by decide), o15 _ (by decide), o14 _ (by decide), o13 _ (by decide), o12 _ (by decide), o11 _ (by decide), o10 _ (by decide), o9 _ (by decide), o8 _ (by decide), o7 _ (by decide), o6 _ (by decide), o5 _ (by decide), v4 k hk, o3 _ (by decide), o2 _ (by decide), o1 _ (by decide)]
  · intro k hk
    rw [o16 _ (by decide), o15 _ (by decide), o14 _ (by decide), o13 _ (by decide), o12 _ (by decide), o11 _ (by decide), o10 _ (by decide), o9 _ (by decide), o8 _ (by decide), o7 _ (by decide), o6 _ (by decide), v5 k hk, o4 _ (by decide), o3 _ (by decide), o2 _ (by decide), o1 _ (by decide)]
  · intro k hk
    rw [o16 _ (by decide), o15 _ (by decide), o14 _ (by decide), o13 _ (by decide), o12 _ (by decide), o11 _ (by decide), o10 _ (by decide), o9 _ (by decide), o8 _ (by decide), o7 _ (by decide), v6 k hk, o5 _ (by decide), o4 _ (by decide), o3 _ (by decide), o2 _ (by decide), o1 _ (by decide)]
  · intro k hk
    rw [o16 _ (by decide), o15 _ (by decide), o14 _ (by decide), o13 _ (by decide), o12 _ (by decide), o11 _ (by decide), o10 _ (by decide), o9 _ (by decide), o8 _ (by decide), v7 k hk, o6 _ (by decide), o5 _ (by decide), o4 _ (by decide), o3 _ (by decide), o2 _ (by decide), o1 _ (by decide)]
  · intro k hk
    rw [o16 _ (by decide), o15 _ (by decide), o14 _ (by decide), o13 _ (by decide), o12 _ (by decide), o11 _ (by decide), o10 _ (by decide), o9 _ (by decide), v8 k hk, o7 _ (by decide), o6 _ (by decide), o5 _ (by decide), o4 _ (by decide), o3 _ (by decide), o2 _ (by decide), o1 _ (by decide)]
  · intro k hk
    rw [o16 _ (by decide), o15 _ (by decide), o14 _ (by decide), o13 _ (by decide), o12 _ (by decide), o11 _ (by decide), o10 _ (by decide), v9 k hk, o8 _ (by decide), o7 _ (by decide), o6 _ (by decide), o5 _ (by decide), o4 _ (by decide), o3 _ (by decide), o2 _ (by decide), o1 _ (by decide)]
  · intro k hk
    rw [o16 _ (by decide), o15 _ (by decide), o14 _ (by decide), o13 _ (by decide), o12 _ (by decide), o11 _ (by decide), v10 k hk, o9 _ (by decide), o8 _ (by decide), o7 _ (by decide), o6 _ (by decide), o5 _ (by decide), o4 _ (by decide), o3 _ (by decide), o2 _ (by decide), o1 _ (by decide)]
  · intro k hk
    rw [o16 _ (by decide), o15 _ (by decide), o14 _ (by decide), o13 _ (by decide), o12 _ (by decide), v11 k hk, o10 _ (by decide), o9 _ (by decide), o8 _ (by decide), o7 _ (by decide), o6 _ (by decide), o5 _ (by decide), o4 _ (by decide), o3 _ (by decide), o2 _ (by decide), o1 _ (by decide)]
  · intro k hk
    rw [o16 _ (by decide), o15 _ (by decide), o14 _ (by decide), o13 _ (by decide), v12 k hk, o11 _ (by decide), o10 _ (by decide), o9 _ (by decide), o8 _ (by decide), o7 _ (by decide), o6 _ (by decide), o5 _ (by decide), o4 _ (by decide), o3 _ (by decide), o2 _ (by decide), o1 _ (by decide)]
  · rw [p16 _ (by decide), p15 _ (by decide), p14 _ (by decide), v13, o12 _ (by decide), o11 _ (by decide), o10 _ (by decide), o9 _ (by decide), o8 _ (by decide), o7 _ (by decide), o6 _ (by decide), o5 _ (by decide), o4 _ (by decide), o3 _ (by decide), o2 _ (by decide), o1 _ (by decide)]
  · rw [p16 _ (by decide), p15 _ (by decide), v14, o13 _ (by decide), o12 _ (by decide), o11 _ (by decide), o10 _ (by decide), o9 _ (by decide), o8 _ (by decide), o7 _ (by decide), o6 _ (by decide), o5 _ (by decide), o4 _ (by decide), o3 _ (by decide), o2 _ (by decide), o1 _ (by decide)]
  · rw [p16 _ (by decide), v15, o14 _ (by decide), o13 _ (by decide), o12 _ (by decide), o11 _ (by decide), o10 _ (by decide), o9 _ (by decide), o8 _ (by decide), o7 _ (by decide), o6 _ (by decide), o5 _ (by decide), o4 _ (by decide), o3 _ (by decide), o2 _ (by decide), o1 _ (by decide)]
  · rw [v16, o15 _ (by decide), o14 _ (by decide), o13 _ (by decide), o12 _ (by decide), o11 _ (by decide), o10 _ (by decide), o9 _ (by decide), o8 _ (by decide), o7 _ (by decide), o6 _ (by decide), o5 _ (by decide), o4 _ (by decide), o3 _ (by decide), o2 _ (by decide), o1 _ (by decide)]
theorem cp_Folk_copyFrom2 (n : Nat) (m : bM) : ∃ m2, sem (n + 1) 197 [aR 37, aR 50] m = some (m2, 0) ∧ (∀ i, (i < 37 ∨ 49 < i) → m2 i = m i) ∧ (∀ k, k < 16 → m2 38 k = m 51 k) ∧ (∀ k, k < 16 → m2 39 k = m 52 k) ∧ (∀ k, k < 16 → m2 40 k = m 53 k) ∧ (∀ k, k < 16 → m2 41 k = m 54 k) ∧ (∀ k, k < 16 → m2 42 k = m 55 k) ∧ (∀ k, k < 16 → m2 43 k = m 56 k) ∧ (∀ k, k < 12 → m2 44 k = m 57 k) ∧ (∀ k, k < 12 → m2 45 k = m 58 k) ∧ (∀ k, k < 12 → m2 46 k = m 59 k) ∧ (∀ k, k < 12 → m2 47 k = m 60 k) ∧ (∀ k, k < 12 → m2 48 k = m 61 k) ∧ (∀ k, k < 12 → m2 49 k = m 62 k) ∧ m2 37 12 = m 50 12 ∧ m2 37 13 = m 50 13 ∧ m2 37 14 = m 50 14 ∧ m2 37 15 = m 50 15 := by
  obtain ⟨x1, h1⟩ : ∃ x, x = bcpy m 51 38 0 0 16 := ⟨_, rfl⟩
  have o1 : ∀ i, i ≠ 38 → x1 i = m i := fun i hi => by rw [h1, bcpy_ne _ _ _ _ _ _ hi]
  have v1 : ∀ k, k < 16 → x1 38 k = m 51 k := fun k hk => by rw [h1, bcpy_c, if_pos (cpz hk), cpk]
  obtain ⟨x2, h2⟩ : ∃ x, x = bcpy x1 52 39 0 0 16 := ⟨_, rfl⟩
  have o2 : ∀ i, i ≠ 39 → x2 i = x1 i := fun i hi => by rw [h2, bcpy_ne _ _ _ _ _ _ hi]
  have v2 : ∀ k, k < 16 → x2 39 k = x1 52 k := fun k hk => by rw [h2, bcpy_c, if_pos (cpz hk), cpk]
  obtain ⟨x3, h3⟩ : ∃ x, x = bcpy x2 53 40 0 0 16 := ⟨_, rfl⟩
  have o3 : ∀ i, i ≠ 40 → x3 i = x2 i := fun i hi => by rw [h3, bcpy_ne _ _ _ _ _ _ hi]
  have v3 : ∀ k, k < 16 → x3 40 k = x2 53 k := fun k hk => by rw [h3, bcpy_c, if_pos (cpz hk), cpk]
  obtain ⟨x4, h4⟩ : ∃ x, x = bcpy x3 54 41 0 0 16 := ⟨_, rfl⟩
  have o4 : ∀ i, i ≠ 41 → x4 i = x3 i := fun i hi => by rw [h4, bcpy_ne _ _ _ _ _ _ hi]
  have v4 : ∀ k, k < 16 → x4 41 k = x3 54 k := fun k hk => by rw [h4, bcpy_c, if_pos (cpz hk), cpk]
  obtain ⟨x5, h5⟩ : ∃ x, x = bcpy x4 55 42 0 0 16 := ⟨_, rfl⟩
  have o5 : ∀ i, i ≠ 42 → x5 i = x4 i := fun i hi => by rw [h5, bcpy_ne _ _ _ _ _ _ hi]
  have v5 : ∀ k, k < 16 → x5 42 k = x4 55 k := fun k hk => by rw [h5, bcpy_c, if_pos (cpz hk), cpk]
  obtain ⟨x6, h6⟩ : ∃ x, x = bcpy x5 56 43 0 0 16 := ⟨_, rfl⟩
  have o6 : ∀ i, i ≠ 43 → x6 i = x5 i := fun i hi => by rw [h6, bcpy_ne _ _ _ _ _ _ hi]
  have v6 : ∀ k, k < 16 → x6 43 k = x5 56 k := fun k hk => by rw [h6, bcpy_c, if_pos (cpz hk), cpk]
  obtain ⟨x7, h7⟩ : ∃ x, x = bcpy x6 57 44 0 0 12 := ⟨_, rfl⟩
  have o7 : ∀ i, i ≠ 44 → x7 i = x6 i := fun i hi => by rw [h7, bcpy_ne _ _ _ _ _ _ hi]
  have v7 : ∀ k, k < 12 → x7 44 k = x6 57 k := fun k hk => by rw [h7, bcpy_c, if_pos (cpz hk), cpk]
  obtain ⟨x8, h8⟩ : ∃ x, x = bcpy x7 58 45 0 0 12 := ⟨_, rfl⟩
  have o8 : ∀ i, i ≠ 45 → x8 i = x7 i := fun i hi => by rw [h8, bcpy_ne _ _ _ _ _ _ hi]
  have v8 : ∀ k, k < 12 → x8 45 k = x7 58 k := fun k hk => by rw [h8, bcpy_c, if_pos (cpz hk), cpk]
  obtain ⟨x9, h9⟩ : ∃ x, x = bcpy x8 59 46 0 0 12 := ⟨_, rfl⟩
  have o9 : ∀ i, i ≠ 46 → x9 i = x8 i := fun i hi => by rw [h9, bcpy_ne _ _ _ _ _ _ hi]
  have v9 : ∀ k, k < 12 → x9 46 k = x8 59 k := fun k hk => by rw [h9, bcpy_c, if_pos (cpz hk), cpk]
  obtain ⟨x10, h10⟩ : ∃ x, x = bcpy x9 60 47 0 0 12 := ⟨_, rfl⟩
  have o10 : ∀ i, i ≠ 47 → x10 i = x9 i := fun i hi => by rw [h10, bcpy_ne _ _ _ _ _ _ hi]
  have v10 : ∀ k, k < 12 → x10 47 k = x9 60 k := fun k hk => by rw [h10, bcpy_c, if_pos (cpz hk), cpk]
  obtain ⟨x11, h11⟩ : ∃ x, x = bcpy x10 61 48 0 0 12 := ⟨_, rfl⟩
  have o11 : ∀ i, i ≠ 48 → x11 i = x10 i := fun i hi => by rw [h11, bcpy_ne _ _ _ _ _ _ hi]
  have v11 : ∀ k, k < 12 → x11 48 k = x10 61 k := fun k hk => by rw [h11, bcpy_c, if_pos (cpz hk), cpk]
  obtain ⟨x12, h12⟩ : ∃ x, x = bcpy x11 62 49 0 0 12 := ⟨_, rfl⟩
  have o12 : ∀ i, i ≠ 49 → x12 i = x11 i := fun i hi => by rw [h12, bcpy_ne _ _ _ _ _ _ hi]
  have v12 : ∀ k, k < 12 → x12 49 k = x11 62 k := fun k hk => by rw [h12, bcpy_c, if_pos (cpz hk), cpk]
  obtain ⟨x13, h13⟩ : ∃ x, x = bwr x12 37 12 (x12 50 12) := ⟨_, rfl⟩
  have o13 : ∀ i, i ≠ 37 → x13 i = x12 i := fun i hi => by rw [h13, bwr_ne _ _ hi]
  have p13 : ∀ k, k ≠ 12 → x13 37 k = x12 37 k := fun k hk => by rw [h13, bwr_ne2 _ hk]
  have v13 : x13 37 12 = x12 50 12 := by rw [h13, bwr_eq2]
  obtain ⟨x14, h14⟩ : ∃ x, x = bwr x13 37 13 (x13 50 13) := ⟨_, rfl⟩
  have o14 : ∀ i, i ≠ 37 → x14 i = x13 i := fun i hi => by rw [h14, bwr_ne _ _ hi]
  have p14 : ∀ k, k ≠ 13 → x14 37 k = x13 37 k := fun k hk => by rw [h14, bwr_ne2 _ hk]
  have v14 : x14 37 13 = x13 50 13 := by rw [h14, bwr_eq2]
  obtain ⟨x15, h15⟩ : ∃ x, x = bwr x14 37 14 (x14 50 14) := ⟨_, rfl⟩
  have o15 : ∀ i, i ≠ 37 → x15 i = x14 i := fun i hi => by rw [h15, bwr_ne _ _ hi]
  have p15 : ∀ k, k ≠ 14 → x15 37 k = x14 37 k := fun k hk => by rw [h15, bwr_ne2 _ hk]
  have v15 : x15 37 14 = x14 50 14 := by rw [h15, bwr_eq2]
  obtain ⟨x16, h16⟩ : ∃ x, x = bwr x15 37 15 (x15 50 15) := ⟨_, rfl⟩
  have o16 : ∀ i, i ≠ 37 → x16 i = x15 i := fun i hi => by rw [h16, bwr_ne _ _ hi]
  have p16 : ∀ k, k ≠ 15 → x16 37 k = x15 37 k := fun k hk => by rw [h16, bwr_ne2 _ hk]
  have v16 : x16 37 15 = x15 50 15 := by rw [h16, bwr_eq2]
  refine ⟨x16, ?_, ?_, ?_, ?_, ?_, ?_, ?_, ?_, ?_, ?_, ?_, ?_, ?_, ?_, ?_, ?_, ?_, ?_⟩
  · rw [st_Folk_copyFrom2]
    unfold B_Folk_copyFrom2
    rw [q_copy 16 51 38 rfl rfl rfl rfl (by decide) (by decide) (by decide), show (16 : Int).toNat = 16 from rfl, ← h1]
    rw [q_copy 16 52 39 rfl rfl rfl rfl (by decide) (by decide) (by decide), show (16 : Int).toNat = 16 from rfl, ← h2]
    rw [q_copy 16 53 40 rfl rfl rfl rfl (by decide) (by decide) (by decide), show (16 : Int).toNat = 16 from rfl, ← h3]
    rw [q_copy 16 54 41 rfl rfl rfl rfl (by decide) (by decide) (by decide), show (16 : Int).toNat = 16 from rfl, ← h4]
    rw [q_copy 16 55 42 rfl rfl rfl rfl (by decide) (by decide) (by decide), show (16 : Int).toNat = 16 from rfl, ← h5]
    rw [q_copy 16 56 43 rfl rfl rfl rfl (by decide) (by decide) (by decide), show (16 : Int).toNat = 16 from rfl, ← h6]
    rw [q_copy 12 57 44 rfl rfl rfl rfl (by decide) (by decide) (by decide), show (12 : Int).toNat = 12 from rfl, ← h7]
    rw [q_copy 12 58 45 rfl rfl rfl rfl (by decide) (by decide) (by decide), show (12 : Int).toNat = 12 from rfl, ← h8]
    rw [q_copy 12 59 46 rfl rfl rfl rfl (by decide) (by decide) (by decide), show (12 : Int).toNat = 12 from rfl, ← h9]
    rw [q_copy 12 60 47 rfl rfl rfl rfl (by decide) (by decide) (by decide), show (12 : Int).toNat = 12 from rfl, ← h10]
    rw [q_copy 12 61 48 rfl rfl rfl rfl (by decide) (by decide) (by decide), show (12 : Int).toNat = 12 from rfl, ← h11]
    rw [q_copy 12 62 49 rfl rfl rfl rfl (by decide) (by decide) (by decide), show (12 : Int).toNat = 12 from rfl, ← h12]
    simp only [kr_Folk_copyFrom2, ← h13, ← h14, ← h15, ← h16, d_rLoc1, d_rLoc2, d_rFld1, d_rFld2, d_eInt, d_eLdc, d_eLdw, d_eLoc, d_eFld, d_lFld, d_eAI, d_eAZ, d_eAB, d_lAL, d_eAD, d_eLen, d_eAdd, d_eSub, d_eMul, d_eAnd, d_eOr, d_eXor, d_eShl, d_eShr, d_eUsh, d_lAdd, d_lSub, d_lMul, d_lAnd, d_lOr, d_lXor, d_lShl, d_lShr, d_eDiv, d_eRem, d_eCmp, d_eI2B, d_eI2S, d_eL2I, d_lI2L, d_lInt, d_lLdc, d_lLoc, d_eIte, d_lIte, d_eMax, d_eMin, d_eAbs, d_eAbove, d_eBodies, d_cQ, d_cZ, d_cNot, d_cAnd, d_cOr, d_gNil, d_gI, d_gL, d_gR, d_gD, d_xV, d_xS, d_xN, d_xT, d_eCall, d_lCall, d_eCallC, d_sNop, d_sSet, d_sSetL, d_sSetR, d_sSetQ, d_sInc, d_sPutI, d_sPutZ, d_sPutL, d_sPutA, d_sPutAZ, d_sPutAB, d_sPutAL, d_sPutD, d_sOpF, d_sOpA, d_sCall, d_sCopy, d_sSeq, d_sIf, d_sBrk, d_sCnt, d_sRetV, d_sRet, d_sRetL, d_sLp, d_tDef, d_tCase, d_sSw, d_sSwB, bIt_d, itb_0, itb_1, itb_2, itb_r, its_0, sqk_0, sqk_1, sqk_2, sqk_r, swk_0, swk_1, swk_r, bfin_r, bfin_ite, Option.bind_some, Option.map_some, Option.bind_none, Option.map_none, bind_ite, map_ite, cop0, cop1, cop2, cop3, cop4, cop5, opv0, opv1, opv2, opv3, brc_i, brc_z, two_ne_one, false_or, getI, getR, getL, List.getElem?_cons_zero, List.getElem?_cons_succ, List.set_cons_zero, List.set_cons_succ, bnl, if_true, if_false, true_or, or_true, decide_eq_true_eq, Bool.not_eq_true', decide_eq_false_iff_not, Bool.not_true, Bool.not_false, Bool.true_eq_false, Bool.false_eq_true, ite_not, reduceIte, ite01_0, ite01_1, Decidable.not_not, ne_eq, not_true_eq_false, not_false_eq_true, Function.comp_apply, decide_not, Bool.not_not, Bool.not_eq_false', dc_t, dc_f, and_self, true_and, and_true, and_false, false_and, tnc, Int.reduceLT, Int.reduceLE, Int.reduceEq, Int.reduceAdd, Int.reduceSub, Int.reduceMul, Int.reduceToNat, Int.reduceNeg, Int.reduceNe]
  · intro i hi
    rw [o16 i (by omega), o15 i (by omega), o14 i (by omega), o13 i (by omega), o12 i (by omega), o11 i (by omega), o10 i (by omega), o9 i (by omega), o8 i (by omega), o7 i (by omega), o6 i (by omega), o5 i (by omega), o4 i (by omega), o3 i (by omega), o2 i (by omega), o1 i (by omega)]
  · intro k hk
    rw [o16 _ (by decide), o15 _ (by decide), o14 _ (by decide), o13 _ (by decide), o12 _ (by decide), o11 _ (by decide), o10 _ (by decide), o9 _ (by decide), o8 _ (by decide), o7 _ (by decide), o6 _ (by decide), o5 _ (by decide), o4 _ (by decide), o3 _ (by decide), o2 _ (by decide), v1 k hk]
  · intro k hk
    rw [o16 _ (by decide), o15 _ (by decide), o14 _ (by decide), o13 _ (by decide), o12 _ (by decide), o11 _ (by decide), o10 _ (by decide), o9 _ (by decide), o8 _ (by decide), o7 _ (by decide), o6 _ (by decide), o5 _ (by decide), o4 _ (by decide), o3 _ (by decide), v2 k hk, o1 _ (by decide)]
  · intro k hk
    rw [o16 _ (by decide), o15 _ (by decide), o14 _ (by decide), o13 _ (by decide), o12 _ (by decide), o11 _ (by decide), o10 _ (by decide), o9 _ (by decide), o8 _ (by decide), o7 _ (by decide), o6 _ (by decide), o5 _ (by decide), o4 _ (by decide), v3 k hk, o2 _ (by decide), o1 _ (by decide)]
  · intro k hk
    rw [o16 _ (by decide), o15 _ (by decide), o14 _ (by decide), o13 _ (by decide), o12 _ (by decide), o11 _ (by decide), o10 _ (by decide), o9 _ (by decide), o8 _ (by decide), o7 _ (by decide), o6 _ (by decide), o5 _ (by decide), v4 k hk, o3 _ (by decide), o2 _ (by decide), o1 _ (by decide)]
  · intro k hk
    rw [o16 _ (by decide), o15 _ (by decide), o14 _ (by decide), o13 _ (by decide), o12 _ (by decide), o11 _ (by decide), o10 _ (by decide), o9 _ (by decide), o8 _ (by decide), o7 _ (by decide), o6 _ (by decide), v5 k hk, o4 _ (by decide), o3 _ (by decide), o2 _ (by decide), o1 _ (by decide)]
  · intro k hk
    rw [o16 _ (by decide), o15 _ (by decide), o14 _ (by decide), o13 _ (by decide), o12 _ (by decide), o11 _ (by decide), o10 _ (by decide), o9 _ (by decide), o8 _ (by decide), o7 _ (by decide), v6 k hk, o5 _ (by decide), o4 _ (by decide), o3 _ (by decide), o2 _ (by decide), o1 _ (by decide)]
  · intro k hk
    rw [o16 _ (by decide), o15 _ (by decide), o14 _ (by decide), o13 _ (by decide), o12 _ (by decide), o11 _ (by decide), o10 _ (by decide), o9 _ (by decide), o8 _ (by decide), v7 k hk, o6 _ (by decide), o5 _ (by decide), o4 _ (by decide), o3 _ (by decide), o2 _ (by decide), o1 _ (by decide)]
  · intro k hk
    rw [o16 _ (by decide), o15 _ (by decide), o14 _ (by decide), o13 _ (by decide), o12 _ (by decide), o11 _ (by decide), o10 _ (by decide), o9 _ (by decide), v8 k hk, o7 _ (by decide), o6 _ (by decide), o5 _ (by decide), o4 _ (by decide), o3 _ (by decide), o2 _ (by decide), o1 _ (by decide)]
  · intro k hk
    rw [o16 _ (by decide), o15 _ (by decide), o14 _ (by decide), o13 _ (by decide), o12 _ (by decide), o11 _ (by decide), o10 _ (by decide), v9 k hk, o8 _ (by decide), o7 _ (by decide), o6 _ (by decide), o5 _ (by decide), o4 _ (by decide), o3 _ (by decide), o2 _ (by decide), o1 _ (by decide)]
  · intro k hk
    rw [o16 _ (by decide), o15 _ (by decide), o14 _ (by decide), o13 _ (by decide), o12 _ (by decide), o11 _ (by decide), v10 k hk, o9 _ (by decide), o8 _ (by decide), o7 _ (by decide), o6 _ (by decide), o5 _ (by decide), o4 _ (by decide), o3 _ (by decide), o2 _ (by decide), o1 _ (by decide)]
  · intro k hk
    rw [o16 _ (by decide), o15 _ (by decide), o14 _ (by decide), o13 _ (by decide), o12 _ (by decide), v11 k hk, o10 _ (by decide), o9 _ (by decide), o8 _ (by decide), o7 _ (by decide), o6 _ (by decide), o5 _ (by decide), o4 _ (by decide), o3 _ (by decide), o2 _ (by decide), o1 _ (by decide)]
  · intro k hk
    rw [o16 _ (by decide), o15 _ (by decide), o14 _ (by decide), o13 _ (by decide), v12 k hk, o11 _ (by decide), o10 _ (by decide), o9 _ (by decide), o8 _ (by decide), o7 _ (by decide), o6 _ (by decide), o5 _ (by decide), o4 _ (by decide), o3 _ (by decide), o2 _ (by decide), o1 _ (by decide)]
  · rw [p16 _ (by decide), p15 _ (by decide), p14 _ (by decide), v13, o12 _ (by decide), o11 _ (by decide), o10 _ (by decide), o9 _ (by decide), o8 _ (by decide), o7 _ (by decide), o6 _ (by decide), o5 _ (by decide), o4 _ (by decide), o3 _ (by decide), o2 _ (by decide), o1 _ (by decide)]
  · rw [p16 _ (by decide), p15 _ (by decide), v14, o13 _ (by decide), o12 _ (by decide), o11 _ (by decide), o10 _ (by decide), o9 _ (by decide), o8 _ (by decide), o7 _ (by decide), o6 _ (by decide), o5 _ (by decide), o4 _ (by decide), o3 _ (by decide), o2 _ (by decide), o1 _ (by decide)]
  · rw [p16 _ (by decide), v15, o14 _ (by decide), o13 _ (by decide), o12 _ (by decide), o11 _ (by decide), o10 _ (by decide), o9 _ (by decide), o8 _ (by decide), o7 _ (by decide), o6 _ (by decide), o5 _ (by decide), o4 _ (by decide), o3 _ (by decide), o2 _ (by decide), o1 _ (by decide)]
  · rw [v16, o15 _ (by decide), o14 _ (by decide), o13 _ (by decide), o12 _ (by decide), o11 _ (by decide), o10 _ (by decide), o9 _ (by decide), o8 _ (by decide), o7 _ (by decide), o6 _ (by decide), o5 _ (by decide), o4 _ (by decide), o3 _ (by decide), o2 _ (by decide), o1 _ (by decide)]
theorem cp_Act_copyFrom (n : Nat) (m : bM) : ∃ m2, sem (n + 1) 193 [aR 71, aR 63] m = some (m2, 0) ∧ (∀ i, (i < 71 ∨ 78 < i) → m2 i = m i) ∧ (∀ k, k < 9 → m2 72 k = m 64 k) ∧ (∀ k, k < 9 → m2 73 k = m 65 k) ∧ (∀ k, k < 81 → m2 74 k = m 66 k) ∧ (∀ k, k < 81 → m2 75 k = m 67 k) ∧ (∀ k, k < 81 → m2 76 k = m 68 k) ∧ (∀ k, k < 81 → m2 77 k = m 69 k) ∧ (∀ k, k < 720 → m2 78 k = m 70 k) ∧ m2 71 7 = m 63 7 := by
  obtain ⟨x1, h1⟩ : ∃ x, x = bcpy m 64 72 0 0 9 := ⟨_, rfl⟩
  have o1 : ∀ i, i ≠ 72 → x1 i = m i := fun i hi => by rw [h1, bcpy_ne _ _ _ _ _ _ hi]
  have v1 : ∀ k, k < 9 → x1 72 k = m 64 k := fun k hk => by rw [h1, bcpy_c, if_pos (cpz hk), cpk]
  obtain ⟨x2, h2⟩ : ∃ x, x = bcpy x1 65 73 0 0 9 := ⟨_, rfl⟩
  have o2 : ∀ i, i ≠ 73 → x2 i = x1 i := fun i hi => by rw [h2, bcpy_ne _ _ _ _ _ _ hi]
  have v2 : ∀ k, k < 9 → x2 73 k = x1 65 k := fun k hk => by rw [h2, bcpy_c, if_pos (cpz hk), cpk]
  obtain ⟨x3, h3⟩ : ∃ x, x = bcpy x2 66 74 0 0 81 := ⟨_, rfl⟩
  have o3 : ∀ i, i ≠ 74 → x3 i = x2 i := fun i hi => by rw [h3, bcpy_ne _ _ _ _ _ _ hi]
  have v3 : ∀ k, k < 81 → x3 74 k = x2 66 k := fun k hk => by rw [h3, bcpy_c, if_pos (cpz hk), cpk]
  obtain ⟨x4, h4⟩ : ∃ x, x = bcpy x3 67 75 0 0 81 := ⟨_, rfl⟩
  have o4 : ∀ i, i ≠ 75 → x4 i = x3 i := fun i hi => by rw [h4, bcpy_ne _ _ _ _ _ _ hi]
  have v4 : ∀ k, k < 81 → x4 75 k = x3 67 k := fun k hk => by rw [h4, bcpy_c, if_pos (cpz hk), cpk]
  obtain ⟨x5, h5⟩ : ∃ x, x = bcpy x4 68 76 0 0 81 := ⟨_, rfl⟩
  have o5 : ∀ i, i ≠ 76 → x5 i = x4 i := fun i hi => by rw [h5, bcpy_ne _ _ _ _ _ _ hi]
  have v5 : ∀ k, k < 81 → x5 76 k = x4 68 k := fun k hk => by rw [h5, bcpy_c, if_pos (cpz hk), cpk]
  obtain ⟨x6, h6⟩ : ∃ x, x = bcpy x5 69 77 0 0 81 := ⟨_, rfl⟩
  have o6 : ∀ i, i ≠ 77 → x6 i = x5 i := fun i hi => by rw [h6, bcpy_ne _ _ _ _ _ _ hi]
  have v6 : ∀ k, k < 81 → x6 77 k = x5 69 k := fun k hk => by rw [h6, bcpy_c, if_pos (cpz hk), cpk]
  obtain ⟨x7, h7⟩ : ∃ x, x = bcpy x6 70 78 0 0 720 := ⟨_, rfl⟩
  have o7 : ∀ i, i ≠ 78 → x7 i = x6 i := fun i hi => by rw [h7, bcpy_ne _ _ _ _ _ _ hi]
  have v7 : ∀ k, k < 720 → x7 78 k = x6 70 k := fun k hk => by rw [h7, bcpy_c, if_pos (cpz hk), cpk]
  obtain ⟨x8, h8⟩ : ∃ x, x = bwr x7 71 7 (x7 63 7) := ⟨_, rfl⟩
  have o8 : ∀ i, i ≠ 71 → x8 i = x7 i := fun i hi => by rw [h8, bwr_ne _ _ hi]
  have p8 : ∀ k, k ≠ 7 → x8 71 k = x7 71 k := fun k hk => by rw [h8, bwr_ne2 _ hk]
  have v8 : x8 71 7 = x7 63 7 := by rw [h8, bwr_eq2]
  refine ⟨x8, ?_, ?_, ?_, ?_, ?_, ?_, ?_, ?_, ?_, ?_⟩
  · rw [st_Act_copyFrom]
    unfold B_Act_copyFrom
    rw [q_copy 9 64 72 rfl rfl rfl rfl (by decide) (by decide) (by decide), show (9 : Int).toNat = 9 from rfl, ← h1]
    rw [q_copy 9 65 73 rfl rfl rfl rfl (by decide) (by decide) (by decide), show (9 : Int).toNat = 9 from rfl, ← h2]
    rw [q_copy 81 66 74 rfl rfl rfl rfl (by decide) (by decide) (by decide), show (81 : Int).toNat = 81 from rfl, ← h3]
    rw [q_copy 81 67 75 rfl rfl rfl rfl (by decide) (by decide) (by decide), show (81 : Int).toNat = 81 from rfl, ← h4]
    rw [q_copy 81 68 76 rfl rfl rfl rfl (by decide) (by decide) (by decide), show (81 : Int).toNat = 81 from rfl, ← h5]
    rw [q_copy 81 69 77 rfl rfl rfl rfl (by decide) (by decide) (by decide), show (81 : Int).toNat = 81 from rfl, ← h6]
    rw [q_copy 720 70 78 rfl rfl rfl rfl (by decide) (by decide) (by decide), show (720 : Int).toNat = 720 from rfl, ← h7]
    simp only [kr_Act_copyFrom, ← h8, d_rLoc1, d_rLoc2, d_rFld1, d_rFld2, d_eInt, d_eLdc, d_eLdw, d_eLoc, d_eFld, d_lFld, d_eAI, d_eAZ, d_eAB, d_lAL, d_eAD, d_eLen, d_eAdd, d_eSub, d_eMul, d_eAnd, d_eOr, d_eXor, d_eShl, d_eShr, d_eUsh, d_lAdd, d_lSub, d_lMul, d_lAnd, d_lOr, d_lXor, d_lShl, d_lShr, d_eDiv, d_eRem, d_eCmp, d_eI2B, d_eI2S, d_eL2I, d_lI2L, d_lInt, d_lLdc, d_lLoc, d_eIte, d_lIte, d_eMax, d_eMin, d_eAbs, d_eAbove, d_eBodies, d_cQ, d_cZ, d_cNot, d_cAnd, d_cOr, d_gNil, d_gI, d_gL, d_gR, d_gD, d_xV, d_xS, d_xN, d_xT, d_eCall, d_lCall, d_eCallC, d_sNop, d_sSet, d_sSetL, d_sSetR, d_sSetQ, d_sInc, d_sPutI, d_sPutZ, d_sPutL, d_sPutA, d_sPutAZ, d_sPutAB, d_sPutAL, d_sPutD, d_sOpF, d_sOpA, d_sCall, d_sCopy, d_sSeq, d_sIf, d_sBrk, d_sCnt, d_sRetV, d_sRet, d_sRetL, d_sLp, d_tDef, d_tCase, d_sSw, d_sSwB, bIt_d, itb_0, itb_1, itb_2, itb_r, its_0, sqk_0, sqk_1, sqk_2, sqk_r, swk_0, swk_1, swk_r, bfin_r, bfin_ite, Option.bind_some, Option.map_some, Option.bind_none, Option.map_none, bind_ite, map_ite, cop0, cop1, cop2, cop3, cop4, cop5, opv0, opv1, opv2, opv3, brc_i, brc_z, two_ne_one, false_or, getI, getR, getL, List.getElem?_cons_zero, List.getElem?_cons_succ, List.set_cons_zero, List.set_cons_succ, bnl, if_true, if_false, true_or, or_true, decide_eq_true_eq, Bool.not_eq_true', decide_eq_false_iff_not, Bool.not_true, Bool.not_false, Bool.true_eq_false, Bool.false_eq_true, ite_not, reduceIte, ite01_0, ite01_1, Decidable.not_not, ne_eq, not_true_eq_false, not_false_eq_true, Function.comp_apply, decide_not, Bool.not_not, Bool.not_eq_false', dc_t, dc_f, and_self, true_and, and_true, and_false, false_and, tnc, Int.reduceLT, Int.reduceLE, Int.reduceEq, Int.reduceAdd, Int.reduceSub, Int.reduceMul, Int.reduceToNat, Int.reduceNeg, Int.reduceNe]
  · intro i hi
    rw [o8 i (by omega), o7 i (by omega), o6 i (by omega), o5 i (by omega), o4 i (by omega), o3 i (by omega), o2 i (by omega), o1 i (by omega)]
  · intro k hk
    rw [o8 _ (by decide), o7 _ (by decide), o6 _ (by decide), o5 _ (by decide), o4 _ (by decide), o3 _ (by decide), o2 _ (by decide), v1 k hk]
  · intro k hk
    rw [o8 _ (by decide), o7 _ (by decide), o6 _ (by decide), o5 _ (by decide), o4 _ (by decide), o3 _ (by decide), v2 k hk, o1 _ (by decide)]
  · intro k hk
    rw [o8 _ (by decide), o7 _ (by decide), o6 _ (by decide), o5 _ (by decide), o4 _ (by decide), v3 k hk, o2 _ (by decide), o1 _ (by decide)]
  · intro k hk
    rw [o8 _ (by decide), o7 _ (by decide), o6 _ (by decide), o5 _ (by decide), v4 k hk, o3 _ (by decide), o2 _ (by decide), o1 _ (by decide)]
  · intro k hk
    rw [o8 _ (by decide), o7 _ (by decide), o6 _ (by decide), v5 k hk, o4 _ (by decide), o3 _ (by decide), o2 _ (by decide), o1 _ (by decide)]
  · intro k hk
    rw [o8 _ (by decide), o7 _ (by decide), v6 k hk, o5 _ (by decide), o4 _ (by decide), o3 _ (by decide), o2 _ (by decide), o1 _ (by decide)]
  · intro k hk
    rw [o8 _ (by decide), v7 k hk, o6 _ (by decide), o5 _ (by decide), o4 _ (by decide), o3 _ (by decide), o2 _ (by decide), o1 _ (by decide)]
  · rw [v8, o7 _ (by decide), o6 _ (by decide), o5 _ (by decide), o4 _ (by decide), o3 _ (by decide), o2 _ (by decide), o1 _ (by decide)]
theorem cp_Act_copyFrom2 (n : Nat) (m : bM) : ∃ m2, sem (n + 1) 198 [aR 63, aR 71] m = some (m2, 0) ∧ (∀ i, (i < 63 ∨ 70 < i) → m2 i = m i) ∧ (∀ k, k < 9 → m2 64 k = m 72 k) ∧ (∀ k, k < 9 → m2 65 k = m 73 k) ∧ (∀ k, k < 81 → m2 66 k = m 74 k) ∧ (∀ k, k < 81 → m2 67 k = m 75 k) ∧ (∀ k, k < 81 → m2 68 k = m 76 k) ∧ (∀ k, k < 81 → m2 69 k = m 77 k) ∧ (∀ k, k < 720 → m2 70 k = m 78 k) ∧ m2 63 7 = m 71 7 := by
  obtain ⟨x1, h1⟩ : ∃ x, x = bcpy m 72 64 0 0 9 := ⟨_, rfl⟩
  have o1 : ∀ i, i ≠ 64 → x1 i = m i := fun i hi => by rw [h1, bcpy_ne _ _ _ _ _ _ hi]
  have v1 : ∀ k, k < 9 → x1 64 k = m 72 k := fun k hk => by rw [h1, bcpy_c, if_pos (cpz hk), cpk]
  obtain ⟨x2, h2⟩ : ∃ x, x = bcpy x1 73 65 0 0 9 := ⟨_, rfl⟩
  have o2 : ∀ i, i ≠ 65 → x2 i = x1 i := fun i hi => by rw [h2, bcpy_ne _ _ _ _ _ _ hi]
  have v2 : ∀ k, k < 9 → x2 65 k = x1 73 k := fun k hk => by rw [h2, bcpy_c, if_pos (cpz hk), cpk]
  obtain ⟨x3, h3⟩ : ∃ x, x = bcpy x2 74 66 0 0 81 := ⟨_, rfl⟩
  have o3 : ∀ i, i ≠ 66 → x3 i = x2 i := fun i hi => by rw [h3, bcpy_ne _ _ _ _ _ _ hi]
  have v3 : ∀ k, k < 81 → x3 66 k = x2 74 k := fun k hk => by rw [h3, bcpy_c, if_pos (cpz hk), cpk]
  obtain ⟨x4, h4⟩ : ∃ x, x = bcpy x3 75 67 0 0 81 := ⟨_, rfl⟩
  have o4 : ∀ i, i ≠ 67 → x4 i = x3 i := fun i hi => by rw [h4, bcpy_ne _ _ _ _ _ _ hi]
  have v4 : ∀ k, k < 81 → x4 67 k = x3 75 k := fun k hk => by rw [h4, bcpy_c, if_pos (cpz hk), cpk]
  obtain ⟨x5, h5⟩ : ∃ x, x = bcpy x4 76 68 0 0 81 := ⟨_, rfl⟩
  have o5 : ∀ i, i ≠ 68 → x5 i = x4 i := fun i hi => by rw [h5, bcpy_ne _ _ _ _ _ _ hi]
  have v5 : ∀ k, k < 81 → x5 68 k = x4 76 k := fun k hk => by rw [h5, bcpy_c, if_pos (cpz hk), cpk]
  obtain ⟨x6, h6⟩ : ∃ x, x = bcpy x5 77 69 0 0 81 := ⟨_, rfl⟩
  have o6 : ∀ i, i ≠ 69 → x6 i = x5 i := fun i hi => by rw [h6, bcpy_ne _ _ _ _ _ _ hi]
  have v6 : ∀ k, k < 81 → x6 69 k = x5 77 k := fun k hk => by rw [h6, bcpy_c, if_pos (cpz hk), cpk]
  obtain ⟨x7, h7⟩ : ∃ x, x = bcpy x6 78 70 0 0 720 := ⟨_, rfl⟩
  have o7 : ∀ i, i ≠ 70 → x7 i = x6 i := fun i hi => by rw [h7, bcpy_ne _ _ _ _ _ _ hi]
  have v7 : ∀ k, k < 720 → x7 70 k = x6 78 k := fun k hk => by rw [h7, bcpy_c, if_pos (cpz hk), cpk]
  obtain ⟨x8, h8⟩ : ∃ x, x = bwr x7 63 7 (x7 71 7) := ⟨_, rfl⟩
  have o8 : ∀ i, i ≠ 63 → x8 i = x7 i := fun i hi => by rw [h8, bwr_ne _ _ hi]
  have p8 : ∀ k, k ≠ 7 → x8 63 k = x7 63 k := fun k hk => by rw [h8, bwr_ne2 _ hk]
  have v8 : x8 63 7 = x7 71 7 := by rw [h8, bwr_eq2]
  refine ⟨x8, ?_, ?_, ?_, ?_, ?_, ?_, ?_, ?_, ?_, ?_⟩
  · rw [st_Act_copyFrom2]
    unfold B_Act_copyFrom2
    rw [q_copy 9 72 64 rfl rfl rfl rfl (by decide) (by decide) (by decide), show (9 : Int).toNat = 9 from rfl, ← h1]
    rw [q_copy 9 73 65 rfl rfl rfl rfl (by decide) (by decide) (by decide), show (9 : Int).toNat = 9 from rfl, ← h2]
    rw [q_copy 81 74 66 rfl rfl rfl rfl (by decide) (by decide) (by decide), show (81 : Int).toNat = 81 from rfl, ← h3]
    rw [q_copy 81 75 67 rfl rfl rfl rfl (by decide) (by decide) (by decide), show (81 : Int).toNat = 81 from rfl, ← h4]
    rw [q_copy 81 76 68 rfl rfl rfl rfl (by decide) (by decide) (by decide), show (81 : Int).toNat = 81 from rfl, ← h5]
    rw [q_copy 81 77 69 rfl rfl rfl rfl (by decide) (by decide) (by decide), show (81 : Int).toNat = 81 from rfl, ← h6]
    rw [q_copy 720 78 70 rfl rfl rfl rfl (by decide) (by decide) (by decide), show (720 : Int).toNat = 720 from rfl, ← h7]
    simp only [kr_Act_copyFrom2, ← h8, d_rLoc1, d_rLoc2, d_rFld1, d_rFld2, d_eInt, d_eLdc, d_eLdw, d_eLoc, d_eFld, d_lFld, d_eAI, d_eAZ, d_eAB, d_lAL, d_eAD, d_eLen, d_eAdd, d_eSub, d_eMul, d_eAnd, d_eOr, d_eXor, d_eShl, d_eShr, d_eUsh, d_lAdd, d_lSub, d_lMul, d_lAnd, d_lOr, d_lXor, d_lShl, d_lShr, d_eDiv, d_eRem, d_eCmp, d_eI2B, d_eI2S, d_eL2I, d_lI2L, d_lInt, d_lLdc, d_lLoc, d_eIte, d_lIte, d_eMax, d_eMin, d_eAbs, d_eAbove, d_eBodies, d_cQ, d_cZ, d_cNot, d_cAnd, d_cOr, d_gNil, d_gI, d_gL, d_gR, d_gD, d_xV, d_xS, d_xN, d_xT, d_eCall, d_lCall, d_eCallC, d_sNop, d_sSet, d_sSetL, d_sSetR, d_sSetQ, d_sInc, d_sPutI, d_sPutZ, d_sPutL, d_sPutA, d_sPutAZ, d_sPutAB, d_sPutAL, d_sPutD, d_sOpF, d_sOpA, d_sCall, d_sCopy, d_sSeq, d_sIf, d_sBrk, d_sCnt, d_sRetV, d_sRet, d_sRetL, d_sLp, d_tDef, d_tCase, d_sSw, d_sSwB, bIt_d, itb_0, itb_1, itb_2, itb_r, its_0, sqk_0, sqk_1, sqk_2, sqk_r, swk_0, swk_1, swk_r, bfin_r, bfin_ite, Option.bind_some, Option.map_some, Option.bind_none, Option.map_none, bind_ite, map_ite, cop0, cop1, cop2, cop3, cop4, cop5, opv0, opv1, opv2, opv3, brc_i, brc_z, two_ne_one, false_or, getI, getR, getL, List.getElem?_cons_zero, List.getElem?_cons_succ, List.set_cons_zero, List.set_cons_succ, bnl, if_true, if_false, true_or, or_true, decide_eq_true_eq, Bool.not_eq_true', decide_eq_false_iff_not, Bool.not_true, Bool.not_false, Bool.true_eq_false, Bool.false_eq_true, ite_not, reduceIte, ite01_0, ite01_1, Decidable.not_not, ne_eq, not_true_eq_false, not_false_eq_true, Function.comp_apply, decide_not, Bool.not_not, Bool.not_eq_false', dc_t, dc_f, and_self, true_and, and_true, and_false, false_and, tnc, Int.reduceLT, Int.reduceLE, Int.reduceEq, Int.reduceAdd, Int.reduceSub, Int.reduceMul, Int.reduceToNat, Int.reduceNeg, Int.reduceNe]
  · intro i hi
    rw [o8 i (by omega), o7 i (by omega), o6 i (by omega), o5 i (by omega), o4 i (by omega), o3 i (by omega), o2 i (by omega), o1 i (by omega)]
  · intro k hk
    rw [o8 _ (by decide), o7 _ (by decide), o6 _ (by decide), o5 _ (by decide), o4 _ (by decide), o3 _ (by decide), o2 _ (by decide), v1 k hk]
  · intro k hk
    rw [o8 _ (by decide), o7 _ (by decide), o6 _ (by decide), o5 _ (by decide), o4 _ (by decide), o3 _ (by decide), v2 k hk, o1 _ (by decide)]
  · intro k hk
    rw [o8 _ (by decide), o7 _ (by decide), o6 _ (by decide), o5 _ (by decide), o4 _ (by decide), v3 k hk, o2 _ (by decide), o1 _ (by decide)]
  · intro k hk
    rw [o8 _ (by decide), o7 _ (by decide), o6 _ (by decide), o5 _ (by decide), v4 k hk, o3 _ (by decide), o2 _ (by decide), o1 _ (by decide)]
  · intro k hk
    rw [o8 _ (by decide), o7 _ (by decide), o6 _ (by decide), v5 k hk, o4 _ (by decide), o3 _ (by decide), o2 _ (by decide), o1 _ (by decide)]
  · intro k hk
    rw [o8 _ (by decide), o7 _ (by decide), v6 k hk, o5 _ (by decide), o4 _ (by decide), o3 _ (by decide), o2 _ (by decide), o1 _ (by decide)]
  · intro k hk
    rw [o8 _ (by decide), v7 k hk, o6 _ (by decide), o5 _ (by decide), o4 _ (by decide), o3 _ (by decide), o2 _ (by decide), o1 _ (by decide)]
  · rw [v8, o7 _ (by decide), o6 _ (by decide), o5 _ (by decide), o4 _ (by decide), o3 _ (by decide), o2 _ (by decide), o1 _ (by decide)]
theorem cp_Claims_copyFrom (n : Nat) (m : bM) : ∃ m2, sem (n + 1) 194 [aR 86, aR 79] m = some (m2, 0) ∧ (∀ i, (i < 86 ∨ 92 < i) → m2 i = m i) ∧ (∀ k, k < 16 → m2 87 k = m 80 k) ∧ (∀ k, k < 16 → m2 88 k = m 81 k) ∧ (∀ k, k < 16 → m2 89 k = m 82 k) ∧ (∀ k, k < 16 → m2 90 k = m 83 k) ∧ (∀ k, k < 24 → m2 91 k = m 84 k) ∧ (∀ k, k < 24 → m2 92 k = m 85 k) ∧ m2 86 6 = m 79 6 ∧ m2 86 7 = m 79 7 ∧ m2 86 8 = m 79 8 ∧ m2 86 9 = m 79 9 := by
  obtain ⟨x1, h1⟩ : ∃ x, x = bcpy m 80 87 0 0 16 := ⟨_, rfl⟩
  have o1 : ∀ i, i ≠ 87 → x1 i = m i := fun i hi => by rw [h1, bcpy_ne _ _ _ _ _ _ hi]
  have v1 : ∀ k, k < 16 → x1 87 k = m 80 k := fun k hk => by rw [h1, bcpy_c, if_pos (cpz hk), cpk]
  obtain ⟨x2, h2⟩ : ∃ x, x = bcpy x1 81 88 0 0 16 := ⟨_, rfl⟩
  have o2 : ∀ i, i ≠ 88 → x2 i = x1 i := fun i hi => by rw [h2, bcpy_ne _ _ _ _ _ _ hi]
  have v2 : ∀ k, k < 16 → x2 88 k = x1 81 k := fun k hk => by rw [h2, bcpy_c, if_pos (cpz hk), cpk]
  obtain ⟨x3, h3⟩ : ∃ x, x = bcpy x2 82 89 0 0 16 := ⟨_, rfl⟩
  have o3 : ∀ i, i ≠ 89 → x3 i = x2 i := fun i hi => by rw [h3, bcpy_ne _ _ _ _ _ _ hi]
  have v3 : ∀ k, k < 16 → x3 89 k = x2 82 k := fun k hk => by rw [h3, bcpy_c, if_pos (cpz hk), cpk]
  obtain ⟨x4, h4⟩ : ∃ x, x = bcpy x3 83 90 0 0 16 := ⟨_, rfl⟩
  have o4 : ∀ i, i ≠ 90 → x4 i = x3 i := fun i hi => by rw [h4, bcpy_ne _ _ _ _ _ _ hi]
  have v4 : ∀ k, k < 16 → x4 90 k = x3 83 k := fun k hk => by rw [h4, bcpy_c, if_pos (cpz hk), cpk]
  obtain ⟨x5, h5⟩ : ∃ x, x = bcpy x4 84 91 0 0 24 := ⟨_, rfl⟩
  have o5 : ∀ i, i ≠ 91 → x5 i = x4 i := fun i hi => by rw [h5, bcpy_ne _ _ _ _ _ _ hi]
  have v5 : ∀ k, k < 24 → x5 91 k = x4 84 k := fun k hk => by rw [h5, bcpy_c, if_pos (cpz hk), cpk]
  obtain ⟨x6, h6⟩ : ∃ x, x = bcpy x5 85 92 0 0 24 := ⟨_, rfl⟩
  have o6 : ∀ i, i ≠ 92 → x6 i = x5 i := fun i hi => by rw [h6, bcpy_ne _ _ _ _ _ _ hi]
  have v6 : ∀ k, k < 24 → x6 92 k = x5 85 k := fun k hk => by rw [h6, bcpy_c, if_pos (cpz hk), cpk]
  obtain ⟨x7, h7⟩ : ∃ x, x = bwr x6 86 6 (x6 79 6) := ⟨_, rfl⟩
  have o7 : ∀ i, i ≠ 86 → x7 i = x6 i := fun i hi => by rw [h7, bwr_ne _ _ hi]
  have p7 : ∀ k, k ≠ 6 → x7 86 k = x6 86 k := fun k hk => by rw [h7, bwr_ne2 _ hk]
  have v7 : x7 86 6 = x6 79 6 := by rw [h7, bwr_eq2]
  obtain ⟨x8, h8⟩ : ∃ x, x = bwr x7 86 7 (x7 79 7) := ⟨_, rfl⟩
  have o8 : ∀ i, i ≠ 86 → x8 i = x7 i := fun i hi => by rw [h8, bwr_ne _ _ hi]
  have p8 : ∀ k, k ≠ 7 → x8 86 k = x7 86 k := fun k hk => by rw [h8, bwr_ne2 _ hk]
  have v8 : x8 86 7 = x7 79 7 := by rw [h8, bwr_eq2]
  obtain ⟨x9, h9⟩ : ∃ x, x = bwr x8 86 8 (x8 79 8) := ⟨_, rfl⟩
  have o9 : ∀ i, i ≠ 86 → x9 i = x8 i := fun i hi => by rw [h9, bwr_ne _ _ hi]
  have p9 : ∀ k, k ≠ 8 → x9 86 k = x8 86 k := fun k hk => by rw [h9, bwr_ne2 _ hk]
  have v9 : x9 86 8 = x8 79 8 := by rw [h9, bwr_eq2]
  obtain ⟨x10, h10⟩ : ∃ x, x = bwr x9 86 9 (x9 79 9) := ⟨_, rfl⟩
  have o10 : ∀ i, i ≠ 86 → x10 i = x9 i := fun i hi => by rw [h10, bwr_ne _ _ hi]
  have p10 : ∀ k, k ≠ 9 → x10 86 k = x9 86 k := fun k hk => by rw [h10, bwr_ne2 _ hk]
  have v10 : x10 86 9 = x9 79 9 := by rw [h10, bwr_eq2]
  refine ⟨x10, ?_, ?_, ?_, ?_, ?_, ?_, ?_, ?_, ?_, ?_, ?_, ?_⟩
  · rw [st_Claims_copyFrom]
    unfold B_Claims_copyFrom
    rw [q_copy 16 80 87 rfl rfl rfl rfl (by decide) (by decide) (by decide), show (16 : Int).toNat = 16 from rfl, ← h1]
    rw [q_copy 16 81 88 rfl rfl rfl rfl (by decide) (by decide) (by decide), show (16 : Int).toNat = 16 from rfl, ← h2]
    rw [q_copy 16 82 89 rfl rfl rfl rfl (by decide) (by decide) (by decide), show (16 : Int).toNat = 16 from rfl, ← h3]
    rw [q_copy 16 83 90 rfl rfl rfl rfl (by decide) (by decide) (by decide), show (16 : Int).toNat = 16 from rfl, ← h4]
    rw [q_copy 24 84 91 rfl rfl rfl rfl (by decide) (by decide) (by decide), show (24 : Int).toNat = 24 from rfl, ← h5]
    rw [q_copy 24 85 92 rfl rfl rfl rfl (by decide) (by decide) (by decide), show (24 : Int).toNat = 24 from rfl, ← h6]
    simp only [kr_Claims_copyFrom, ← h7, ← h8, ← h9, ← h10, d_rLoc1, d_rLoc2, d_rFld1, d_rFld2, d_eInt, d_eLdc, d_eLdw, d_eLoc, d_eFld, d_lFld, d_eAI, d_eAZ, d_eAB, d_lAL, d_eAD, d_eLen, d_eAdd, d_eSub, d_eMul, d_eAnd, d_eOr, d_eXor, d_eShl, d_eShr, d_eUsh, d_lAdd, d_lSub, d_lMul, d_lAnd, d_lOr, d_lXor, d_lShl, d_lShr, d_eDiv, d_eRem, d_eCmp, d_eI2B, d_eI2S, d_eL2I, d_lI2L, d_lInt, d_lLdc, d_lLoc, d_eIte, d_lIte, d_eMax, d_eMin, d_eAbs, d_eAbove, d_eBodies, d_cQ, d_cZ, d_cNot, d_cAnd, d_cOr, d_gNil, d_gI, d_gL, d_gR, d_gD, d_xV, d_xS, d_xN, d_xT, d_eCall, d_lCall, d_eCallC, d_sNop, d_sSet, d_sSetL, d_sSetR, d_sSetQ, d_sInc, d_sPutI, d_sPutZ, d_sPutL, d_sPutA, d_sPutAZ, d_sPutAB, d_sPutAL, d_sPutD, d_sOpF, d_sOpA, d_sCall, d_sCopy, d_sSeq, d_sIf, d_sBrk, d_sCnt, d_sRetV, d_sRet, d_sRetL, d_sLp, d_tDef, d_tCase, d_sSw, d_sSwB, bIt_d, itb_0, itb_1, itb_2, itb_r, its_0, sqk_0, sqk_1, sqk_2, sqk_r, swk_0, swk_1, swk_r, bfin_r, bfin_ite, Option.bind_some, Option.map_some, Option.bind_none, Option.map_none, bind_ite, map_ite, cop0, cop1, cop2, cop3, cop4, cop5, opv0, opv1, opv2, opv3, brc_i, brc_z, two_ne_one, false_or, getI, getR, getL, List.getElem?_cons_zero, List.getElem?_cons_succ, List.set_cons_zero, List.set_cons_succ, bnl, if_true, if_false, true_or, or_true, decide_eq_true_eq, Bool.not_eq_true', decide_eq_false_iff_not, Bool.not_true, Bool.not_false, Bool.true_eq_false, Bool.false_eq_true, ite_not, reduceIte, ite01_0, ite01_1, Decidable.not_not, ne_eq, not_true_eq_false, not_false_eq_true, Function.comp_apply, decide_not, Bool.not_not, Bool.not_eq_false', dc_t, dc_f, and_self, true_and, and_true, and_false, false_and, tnc, Int.reduceLT, Int.reduceLE, Int.reduceEq, Int.reduceAdd, Int.reduceSub, Int.reduceMul, Int.reduceToNat, Int.reduceNeg, Int.reduceNe]
  · intro i hi
    rw [o10 i (by omega), o9 i (by omega), o8 i (by omega), o7 i (by omega), o6 i (by omega), o5 i (by omega), o4 i (by omega), o3 i (by omega), o2 i (by omega), o1 i (by omega)]
  · intro k hk
    rw [o10 _ (by decide), o9 _ (by decide), o8 _ (by decide), o7 _ (by decide), o6 _ (by decide), o5 _ (by decide), o4 _ (by decide), o3 _ (by decide), o2 _ (by decide), v1 k hk]
  · intro k hk
    rw [o10 _ (by decide), o9 _ (by decide), o8 _ (by decide), o7 _ (by decide), o6 _ (by decide), o5 _ (by decide), o4 _ (by decide), o3 _ (by decide), v2 k hk, o1 _ (by decide)]
  · intro k hk
    rw [o10 _ (by decide), o9 _ (by decide), o8 _ (by decide), o7 _ (by decide), o6 _ (by decide), o5 _ (by decide), o4 _ (by decide), v3 k hk, o2 _ (by decide), o1 _ (by decide)]
  · intro k hk
    rw [o10 _ (by decide), o9 _ (by decide), o8 _ (by decide), o7 _ (by decide), o6 _ (by decide), o5 _ (by decide), v4 k hk, o3 _ (by decide), o2 _ (by decide), o1 _ (by decide)]
  · intro k hk
    rw [o10 _ (by decide), o9 _ (by decide), o8 _ (by decide), o7 _ (by decide), o6 _ (by decide), v5 k hk, o4 _ (by decide), o3 _ (by decide), o2 _ (by decide), o1 _ (by decide)]
  · intro k hk
    rw [o10 _ (by decide), o9 _ (by decide), o8 _ (by decide), o7 _ (by decide), v6 k hk, o5 _ (by decide), o4 _ (by decide), o3 _ (by decide), o2 _ (by decide), o1 _ (by decide)]
  · rw [p10 _ (by decide), p9 _ (by decide), p8 _ (by decide), v7, o6 _ (by decide), o5 _ (by decide), o4 _ (by decide), o3 _ (by decide), o2 _ (by decide), o1 _ (by decide)]
  · rw [p10 _ (by decide), p9 _ (by decide), v8, o7 _ (by decide), o6 _ (by decide), o5 _ (by decide), o4 _ (by decide), o3 _ (by decide), o2 _ (by decide), o1 _ (by decide)]
  · rw [p10 _ (by decide), v9, o8 _ (by decide), o7 _ (by decide), o6 _ (by decide), o5 _ (by decide), o4 _ (by decide), o3 _ (by decide), o2 _ (by decide), o1 _ (by decide)]
  · rw [v10, o9 _ (by decide), o8 _ (by decide), o7 _ (by decide), o6 _ (by decide), o5 _ (by decide), o4 _ (by decide), o3 _ (by decide), o2 _ (by decide), o1 _ (by decide)]
theorem cp_Claims_copyFrom2 (n : Nat) (m : bM) : ∃ m2, sem (n + 1) 199 [aR 79, aR 86] m = some (m2, 0) ∧ (∀ i, (i < 79 ∨ 85 < i) → m2 i = m i) ∧ (∀ k, k < 16 → m2 80 k = m 87 k) ∧ (∀ k, k < 16 → m2 81 k = m 88 k) ∧ (∀ k, k < 16 → m2 82 k = m 89 k) ∧ (∀ k, k < 16 → m2 83 k = m 90 k) ∧ (∀ k, k < 24 → m2 84 k = m 91 k) ∧ (∀ k, k < 24 → m2 85 k = m 92 k) ∧ m2 79 6 = m 86 6 ∧ m2 79 7 = m 86 7 ∧ m2 79 8 = m 86 8 ∧ m2 79 9 = m 86 9 := by
  obtain ⟨x1, h1⟩ : ∃ x, x = bcpy m 87 80 0 0 16 := ⟨_, rfl⟩
  have o1 : ∀ i, i ≠ 80 → x1 i = m i := fun i hi => by rw [h1, bcpy_ne _ _ _ _ _ _ hi]
  have v1 : ∀ k, k < 16 → x1 80 k = m 87 k := fun k hk => by rw [h1, bcpy_c, if_pos (cpz hk), cpk]
  obtain ⟨x2, h2⟩ : ∃ x, x = bcpy x1 88 81 0 0 16 := ⟨_, rfl⟩
  have o2 : ∀ i, i ≠ 81 → x2 i = x1 i := fun i hi => by rw [h2, bcpy_ne _ _ _ _ _ _ hi]
  have v2 : ∀ k, k < 16 → x2 81 k = x1 88 k := fun k hk => by rw [h2, bcpy_c, if_pos (cpz hk), cpk]
  obtain ⟨x3, h3⟩ : ∃ x, x = bcpy x2 89 82 0 0 16 := ⟨_, rfl⟩
  have o3 : ∀ i, i ≠ 82 → x3 i = x2 i := fun i hi => by rw [h3, bcpy_ne _ _ _ _ _ _ hi]
  have v3 : ∀ k, k < 16 → x3 82 k = x2 89 k := fun k hk => by rw [h3, bcpy_c, if_pos (cpz hk), cpk]
  obtain ⟨x4, h4⟩ : ∃ x, x = bcpy x3 90 83 0 0 16 := ⟨_, rfl⟩
  have o4 : ∀ i, i ≠ 83 → x4 i = x3 i := fun i hi => by rw [h4, bcpy_ne _ _ _ _ _ _ hi]
  have v4 : ∀ k, k < 16 → x4 83 k = x3 90 k := fun k hk => by rw [h4, bcpy_c, if_pos (cpz hk), cpk]
  obtain ⟨x5, h5⟩ : ∃ x, x = bcpy x4 91 84 0 0 24 := ⟨_, rfl⟩
  have o5 : ∀ i, i ≠ 84 → x5 i = x4 i := fun i hi => by rw [h5, bcpy_ne _ _ _ _ _ _ hi]
  have v5 : ∀ k, k < 24 → x5 84 k = x4 91 k := fun k hk => by rw [h5, bcpy_c, if_pos (cpz hk), cpk]
  obtain ⟨x6, h6⟩ : ∃ x, x = bcpy x5 92 85 0 0 24 := ⟨_, rfl⟩
  have o6 : ∀ i, i ≠ 85 → x6 i = x5 i := fun i hi => by rw [h6, bcpy_ne _ _ _ _ _ _ hi]
  have v6 : ∀ k, k < 24 → x6 85 k = x5 92 k := fun k hk => by rw [h6, bcpy_c, if_pos (cpz hk), cpk]
  obtain ⟨x7, h7⟩ : ∃ x, x = bwr x6 79 6 (x6 86 6) := ⟨_, rfl⟩
  have o7 : ∀ i, i ≠ 79 → x7 i = x6 i := fun i hi => by rw [h7, bwr_ne _ _ hi]
  have p7 : ∀ k, k ≠ 6 → x7 79 k = x6 79 k := fun k hk => by rw [h7, bwr_ne2 _ hk]
  have v7 : x7 79 6 = x6 86 6 := by rw [h7, bwr_eq2]
  obtain ⟨x8, h8⟩ : ∃ x, x = bwr x7 79 7 (x7 86 7) := ⟨_, rfl⟩
  have o8 : ∀ i, i ≠ 79 → x8 i = x7 i := fun i hi => by rw [h8, bwr_ne _ _ hi]
  have p8 : ∀ k, k ≠ 7 → x8 79 k = x7 79 k := fun k hk => by rw [h8, bwr_ne2 _ hk]
  have v8 : x8 79 7 = x7 86 7 := by rw [h8, bwr_eq2]
  obtain ⟨x9, h9⟩ : ∃ x, x = bwr x8 79 8 (x8 86 8) := ⟨_, rfl⟩
  have o9 : ∀ i, i ≠ 79 → x9 i = x8 i := fun i hi => by rw [h9, bwr_ne _ _ hi]
  have p9 : ∀ k, k ≠ 8 → x9 79 k = x8 79 k := fun k hk => by rw [h9, bwr_ne2 _ hk]
  have v9 : x9 79 8 = x8 86 8 := by rw [h9, bwr_eq2]
  obtain ⟨x10, h10⟩ : ∃ x, x = bwr x9 79 9 (x9 86 9) := ⟨_, rfl⟩
  have o10 : ∀ i, i ≠ 79 → x10 i = x9 i := fun i hi => by rw [h10, bwr_ne _ _ hi]
  have p10 : ∀ k, k ≠ 9 → x10 79 k = x9 79 k := fun k hk => by rw [h10, bwr_ne2 _ hk]
  have v10 : x10 79 9 = x9 86 9 := by rw [h10, bwr_eq2]
  refine ⟨x10, ?_, ?_, ?_, ?_, ?_, ?_, ?_, ?_, ?_, ?_, ?_, ?_⟩
  · rw [st_Claims_copyFrom2]
    unfold B_Claims_copyFrom2
    rw [q_copy 16 87 80 rfl rfl rfl rfl (by decide) (by decide) (by decide), show (16 : Int).toNat = 16 from rfl, ← h1]
    rw [q_copy 16 88 81 rfl rfl rfl rfl (by decide) (by decide) (by decide), show (16 : Int).toNat = 16 from rfl, ← h2]
    rw [q_copy 16 89 82 rfl rfl rfl rfl (by decide) (by decide) (by decide), show (16 : Int).toNat = 16 from rfl, ← h3]
    rw [q_copy 16 90 83 rfl rfl rfl rfl (by decide) (by decide) (by decide), show (16 : Int).toNat = 16 from rfl, ← h4]
    rw [q_copy 24 91 84 rfl rfl rfl rfl (by decide) (by decide) (by decide), show (24 : Int).toNat = 24 from rfl, ← h5]
    rw [q_copy 24 92 85 rfl rfl rfl rfl (by decide) (by decide) (by decide), show (24 : Int).toNat = 24 from rfl, ← h6]
    simp only [kr_Claims_copyFrom2, ← h7, ← h8, ← h9, ← h10, d_rLoc1, d_rLoc2, d_rFld1, d_rFld2, d_eInt, d_eLdc, d_eLdw, d_eLoc, d_eFld, d_lFld, d_eAI, d_eAZ, d_eAB, d_lAL, d_eAD, d_eLen, d_eAdd, d_eSub, d_eMul, d_eAnd, d_eOr, d_eXor, d_eShl, d_eShr, d_eUsh, d_lAdd, d_lSub, d_lMul, d_lAnd, d_lOr, d_lXor, d_lShl, d_lShr, d_eDiv, d_eRem, d_eCmp, d_eI2B, d_eI2S, d_eL2I, d_lI2L, d_lInt, d_lLdc, d_lLoc, d_eIte, d_lIte, d_eMax, d_eMin, d_eAbs, d_eAbove, d_eBodies, d_cQ, d_cZ, d_cNot, d_cAnd, d_cOr, d_gNil, d_gI, d_gL, d_gR, d_gD, d_xV, d_xS, d_xN, d_xT, d_eCall, d_lCall, d_eCallC, d_sNop, d_sSet, d_sSetL, d_sSetR, d_sSetQ, d_sInc, d_sPutI, d_sPutZ, d_sPutL, d_sPutA, d_sPutAZ, d_sPutAB, d_sPutAL, d_sPutD, d_sOpF, d_sOpA, d_sCall, d_sCopy, d_sSeq, d_sIf, d_sBrk, d_sCnt, d_sRetV, d_sRet, d_sRetL, d_sLp, d_tDef, d_tCase, d_sSw, d_sSwB, bIt_d, itb_0, itb_1, itb_2, itb_r, its_0, sqk_0, sqk_1, sqk_2, sqk_r, swk_0, swk_1, swk_r, bfin_r, bfin_ite, Option.bind_some, Option.map_some, Option.bind_none, Option.map_none, bind_ite, map_ite, cop0, cop1, cop2, cop3, cop4, cop5, opv0, opv1, opv2, opv3, brc_i, brc_z, two_ne_one, false_or, getI, getR, getL, List.getElem?_cons_zero, List.getElem?_cons_succ, List.set_cons_zero, List.set_cons_succ, bnl, if_true, if_false, true_or, or_true, decide_eq_true_eq, Bool.not_eq_true', decide_eq_false_iff_not, Bool.not_true, Bool.not_false, Bool.true_eq_false, Bool.false_eq_true, ite_not, reduceIte, ite01_0, ite01_1, Decidable.not_not, ne_eq, not_true_eq_false, not_false_eq_true, Function.comp_apply, decide_not, Bool.not_not, Bool.not_eq_false', dc_t, dc_f, and_self, true_and, and_true, and_false, false_and, tnc, Int.reduceLT, Int.reduceLE, Int.reduceEq, Int.reduceAdd, Int.reduceSub, Int.reduceMul, Int.reduceToNat, Int.reduceNeg, Int.reduceNe]
  · intro i hi
    rw [o10 i (by omega), o9 i (by omega), o8 i (by omega), o7 i (by omega), o6 i (by omega), o5 i (by omega), o4 i (by omega), o3 i (by omega), o2 i (by omega), o1 i (by omega)]
  · intro k hk
    rw [o10 _ (by decide), o9 _ (by decide), o8 _ (by decide), o7 _ (by decide), o6 _ (by decide), o5 _ (by decide), o4 _ (by decide), o3 _ (by decide), o2 _ (by decide), v1 k hk]
  · intro k hk
    rw [o10 _ (by decide), o9 _ (by decide), o8 _ (by decide), o7 _ (by decide), o6 _ (by decide), o5 _ (by decide), o4 _ (by decide), o3 _ (by decide), v2 k hk, o1 _ (by decide)]
  · intro k hk
    rw [o10 _ (by decide), o9 _ (by decide), o8 _ (by decide), o7 _ (by decide), o6 _ (by decide), o5 _ (by decide), o4 _ (by decide), v3 k hk, o2 _ (by decide), o1 _ (by decide)]
  · intro k hk
    rw [o10 _ (by decide), o9 _ (by decide), o8 _ (by decide), o7 _ (by decide), o6 _ (by decide), o5 _ (by decide), v4 k hk, o3 _ (by decide), o2 _ (by decide), o1 _ (by decide)]
  · intro k hk
    rw [o10 _ (by decide), o9 _ (by decide), o8 _ (by decide), o7 _ (by decide), o6 _ (by decide), v5 k hk, o4 _ (by decide), o3 _ (by decide), o2 _ (by decide), o1 _ (by decide)]
  · intro k hk
    rw [o10 _ (by decide), o9 _ (by decide), o8 _ (by decide), o7 _ (by decide), v6 k hk, o5 _ (by decide), o4 _ (by decide), o3 _ (by decide), o2 _ (by decide), o1 _ (by decide)]
  · rw [p10 _ (by decide), p9 _ (by decide), p8 _ (by decide), v7, o6 _ (by decide), o5 _ (by decide), o4 _ (by decide), o3 _ (by decide), o2 _ (by decide), o1 _ (by decide)]
  · rw [p10 _ (by decide), p9 _ (by decide), v8, o7 _ (by decide), o6 _ (by decide), o5 _ (by decide), o4 _ (by decide), o3 _ (by decide), o2 _ (by decide), o1 _ (by decide)]
  · rw [p10 _ (by decide), v9, o8 _ (by decide), o7 _ (by decide), o6 _ (by decide), o5 _ (by decide), o4 _ (by decide), o3 _ (by decide), o2 _ (by decide), o1 _ (by decide)]
  · rw [v10, o9 _ (by decide), o8 _ (by decide), o7 _ (by decide), o6 _ (by decide), o5 _ (by decide), o4 _ (by decide), o3 _ (by decide), o2 _ (by decide), o1 _ (by decide)]
