theorem qa_l0 : (0 : Int32).toInt = 0 := by decide
theorem qa_l1 : (1 : Int32).toInt = 1 := by decide
theorem qa_l2 : (2 : Int32).toInt = 2 := by decide
theorem qa_l3 : (3 : Int32).toInt = 3 := by decide
theorem qa_l5 : (5 : Int32).toInt = 5 := by decide
theorem qa_l6 : (6 : Int32).toInt = 6 := by decide
theorem qa_l11 : (11 : Int32).toInt = 11 := by decide
theorem qa_l12 : (12 : Int32).toInt = 12 := by decide
theorem qa_l15 : (15 : Int32).toInt = 15 := by decide
theorem qa_l16 : (16 : Int32).toInt = 16 := by decide
theorem qa_l17 : (17 : Int32).toInt = 17 := by decide
theorem qa_l18 : (18 : Int32).toInt = 18 := by decide
theorem qa_l20 : (20 : Int32).toInt = 20 := by decide
theorem qa_l21 : (21 : Int32).toInt = 21 := by decide
theorem qa_l22 : (22 : Int32).toInt = 22 := by decide
theorem qa_l28 : (28 : Int32).toInt = 28 := by decide
theorem qa_l29 : (29 : Int32).toInt = 29 := by decide
theorem qa_l31 : (31 : Int32).toInt = 31 := by decide
theorem qa_l32 : (32 : Int32).toInt = 32 := by decide
theorem qa_l255 : (255 : Int32).toInt = 255 := by decide
theorem qa_l65535 : (65535 : Int32).toInt = 65535 := by decide
theorem qa_lm1 : (-1 : Int32).toInt = -1 := by decide
theorem qa_lt {x y : Int32} : x < y ↔ x.toInt < y.toInt := Int32.lt_iff_toInt_lt
theorem qa_le {x y : Int32} : x ≤ y ↔ x.toInt ≤ y.toInt := Int32.le_iff_toInt_le
theorem qa_eq {x y : Int32} : x = y ↔ x.toInt = y.toInt := Int32.toInt_inj.symm
def qa_K1 (o n : Int) : Prop := (o = 0 → 0 ≤ n ∧ n ≤ 65535) ∧ (12 ≤ o ∧ o ≤ 15 → 0 ≤ n ∧ n ≤ 255) ∧ (o = 16 ∨ o = 17 → 0 ≤ n ∧ n ≤ 3)
def qa_K2 (o n t : Int) : Prop := (21 ≤ o ∧ o ≤ 28 → 1 ≤ t ∧ t ≤ 31) ∧ qa_K1 o n
def qa_K3 (o d s n t : Int) : Prop := (22 ≤ o ∧ o ≤ 28 → ¬ s = d) ∧ qa_K2 o n t
def qa_K4 (o d s n t : Int) : Prop := ((2 ≤ o ∧ o ≤ 11) ∨ (22 ≤ o ∧ o ≤ 28) → (0 ≤ s ∧ s ≤ 5) ∨ (s = -1 ∧ 0 ≤ n ∧ n ≤ 65535)) ∧ qa_K3 o d s n t
def qa_K5 (o d s n t : Int) : Prop := (o = 1 ∨ (12 ≤ o ∧ o ≤ 15) → 0 ≤ s ∧ s ≤ 5) ∧ qa_K4 o d s n t
def qa_K6 (o d s n t : Int) : Prop := (o ≤ 17 ∨ (22 ≤ o ∧ o ≤ 28) → 0 ≤ d ∧ d ≤ 5) ∧ qa_K5 o d s n t
def qa_K7 (o d s n t : Int) : Prop := (0 ≤ o ∧ o ≤ 29) ∧ qa_K6 o d s n t
theorem qa_xcond (post : Int32 → Prop) (o : Int32) (h1 : 22 ≤ o.toInt ∧ o.toInt ≤ 28 → post 1) (h0 : ¬ (22 ≤ o.toInt ∧ o.toInt ≤ 28) → post 0) : wpX_isCondition post o := by
  refine br_c (fun h => h0 ?_) (fun h => br_c (fun h' => h0 ?_) (fun h' => h1 ?_)) <;> simp only [qa_lt, qa_le, qa_eq, qa_l0, qa_l1, qa_l2, qa_l3, qa_l5, qa_l6, qa_l11, qa_l12, qa_l15, qa_l16, qa_l17, qa_l18, qa_l20, qa_l21, qa_l22, qa_l28, qa_l29, qa_l31, qa_l32, qa_l255, qa_l65535, qa_lm1] at * <;> omega
theorem qa_xreg (post : Int32 → Prop) (o : Int32) (h1 : 0 ≤ o.toInt ∧ o.toInt ≤ 5 → post 1) (h0 : ¬ (0 ≤ o.toInt ∧ o.toInt ≤ 5) → post 0) : wpX_isRegister post o := by
  refine br_c (fun h => h0 ?_) (fun h => br_c (fun h' => h0 ?_) (fun h' => h1 ?_)) <;> simp only [qa_lt, qa_le, qa_eq, qa_l0, qa_l1, qa_l2, qa_l3, qa_l5, qa_l6, qa_l11, qa_l12, qa_l15, qa_l16, qa_l17, qa_l18, qa_l20, qa_l21, qa_l22, qa_l28, qa_l29, qa_l31, qa_l32, qa_l255, qa_l65535, qa_lm1] at * <;> omega
theorem qa_xneed (post : Int32 → Prop) (o : Int32) (h1 : (o.toInt = 1 ∨ (12 ≤ o.toInt ∧ o.toInt ≤ 15)) → post 1) (h0 : ¬ (o.toInt = 1 ∨ (12 ≤ o.toInt ∧ o.toInt ≤ 15)) → post 0) : wpX_needsRegisterS post o := by
  refine br_c (fun h => h1 ?_) (fun h => br_c (fun h' => h0 ?_) (fun h' => br_c (fun h'' => h0 ?_) (fun h'' => h1 ?_))) <;> simp only [qa_lt, qa_le, qa_eq, qa_l0, qa_l1, qa_l2, qa_l3, qa_l5, qa_l6, qa_l11, qa_l12, qa_l15, qa_l16, qa_l17, qa_l18, qa_l20, qa_l21, qa_l22, qa_l28, qa_l29, qa_l31, qa_l32, qa_l255, qa_l65535, qa_lm1] at * <;> omega
theorem qa_xtakes (post : Int32 → Prop) (o : Int32) (h1 : ((2 ≤ o.toInt ∧ o.toInt ≤ 11) ∨ (22 ≤ o.toInt ∧ o.toInt ≤ 28)) → post 1) (h0 : ¬ ((2 ≤ o.toInt ∧ o.toInt ≤ 11) ∨ (22 ≤ o.toInt ∧ o.toInt ≤ 28)) → post 0) : wpX_takesX post o := by
  refine br_c (fun h => br_c (fun h' => h0 ?_) (fun h' => br_c (fun h'' => h0 ?_) (fun h'' => h1 ?_))) (fun h => br_c (fun h' => h1 ?_) (fun h' => br_c (fun h'' => h0 ?_) (fun h'' => br_c (fun h3 => h0 ?_) (fun h3 => h1 ?_)))) <;> simp only [qa_lt, qa_le, qa_eq, qa_l0, qa_l1, qa_l2, qa_l3, qa_l5, qa_l6, qa_l11, qa_l12, qa_l15, qa_l16, qa_l17, qa_l18, qa_l20, qa_l21, qa_l22, qa_l28, qa_l29, qa_l31, qa_l32, qa_l255, qa_l65535, qa_lm1] at * <;> omega
theorem qa_xgreat (post : Int32 → Prop) (o : Int32) (ha : o.toInt = 0 → post 65535) (hb : 12 ≤ o.toInt ∧ o.toInt ≤ 15 → post 255) (hc : o.toInt = 16 ∨ o.toInt = 17 → post 3) (hd : ¬ o.toInt = 0 ∧ ¬ (12 ≤ o.toInt ∧ o.toInt ≤ 15) ∧ ¬ (o.toInt = 16 ∨ o.toInt = 17) → post (-1)) : wpX_greatestN post o := by
  refine br_c (fun h => ha ?_) (fun h => br_c (fun h' => br_c (fun h2 => hc ?_) (fun h2 => br_c (fun h3 => hc ?_) (fun h3 => hd ?_))) (fun h' => br_c (fun h4 => br_c (fun h2 => hc ?_) (fun h2 => br_c (fun h3 => hc ?_) (fun h3 => hd ?_))) (fun h4 => hb ?_))) <;> simp only [qa_lt, qa_le, qa_eq, qa_l0, qa_l1, qa_l2, qa_l3, qa_l5, qa_l6, qa_l11, qa_l12, qa_l15, qa_l16, qa_l17, qa_l18, qa_l20, qa_l21, qa_l22, qa_l28, qa_l29, qa_l31, qa_l32, qa_l255, qa_l65535, qa_lm1] at * <;> omega
theorem qa_x128 (post : Int32 → Prop) (x1 x4 : Int32) (f_count f_conditions f_ways f_isVerified f_wrong f_wrongAt f_size f_ranCount f_ranLast : Int32) (a_opOf a_dOf a_sOf a_nOf a_toOf a_kind a_lo a_hi a_z a_step a_origin a_reach a_wayAt a_seenKind a_seenLo a_seenHi a_seenZ a_jumped a_stayed a_memory a_isThere a_area a_value : Nat → Int32) (h1 : qa_K1 x1.toInt x4.toInt → post 1) (h0 : ¬ qa_K1 x1.toInt x4.toInt → post 0) : wX_isAsSaid_128 post x1 x4 f_count f_conditions f_ways f_isVerified f_wrong f_wrongAt f_size f_ranCount f_ranLast a_opOf a_dOf a_sOf a_nOf a_toOf a_kind a_lo a_hi a_z a_step a_origin a_reach a_wayAt a_seenKind a_seenLo a_seenHi a_seenZ a_jumped a_stayed a_memory a_isThere a_area a_value := by
  unfold qa_K1 at h1 h0
  unfold wX_isAsSaid_128
  refine qa_xgreat _ x1 (fun e => br_f (by decide) (br_c (fun h => h0 ?_) (fun h => br_c (fun h' => h0 ?_) (fun h' => h1 ?_)))) (fun e => br_f (by decide) (br_c (fun h => h0 ?_) (fun h => br_c (fun h' => h0 ?_) (fun h' => h1 ?_)))) (fun e => br_f (by decide) (br_c (fun h => h0 ?_) (fun h => br_c (fun h' => h0 ?_) (fun h' => h1 ?_)))) (fun e => br_t rfl (h1 ?_))
  all_goals try simp only [qa_lt, qa_le, qa_eq, qa_l0, qa_l1, qa_l2, qa_l3, qa_l5, qa_l6, qa_l11, qa_l12, qa_l15, qa_l16, qa_l17, qa_l18, qa_l20, qa_l21, qa_l22, qa_l28, qa_l29, qa_l31, qa_l32, qa_l255, qa_l65535, qa_lm1] at h
  all_goals try simp only [qa_lt, qa_le, qa_eq, qa_l0, qa_l1, qa_l2, qa_l3, qa_l5, qa_l6, qa_l11, qa_l12, qa_l15, qa_l16, qa_l17, qa_l18, qa_l20, qa_l21, qa_l22, qa_l28, qa_l29, qa_l31, qa_l32, qa_l255, qa_l65535, qa_lm1] at h'
  all_goals clear h1 h0
  all_goals omega
theorem qa_x110 (post : Int32 → Prop) (x1 x4 x5 : Int32) (f_count f_conditions f_ways f_isVerified f_wrong f_wrongAt f_size f_ranCount f_ranLast : Int32) (a_opOf a_dOf a_sOf a_nOf a_toOf a_kind a_lo a_hi a_z a_step a_origin a_reach a_wayAt a_seenKind a_seenLo a_seenHi a_seenZ a_jumped a_stayed a_memory a_isThere a_area a_value : Nat → Int32) (hc : f_count = 0) (h1 : qa_K2 x1.toInt x4.toInt x5.toInt → post 1) (h0 : ¬ qa_K2 x1.toInt x4.toInt x5.toInt → post 0) (ho : 21 ≤ x1.toInt ∧ x1.toInt ≤ 28) : wX_isAsSaid_110 post x1 x4 x5 f_count f_conditions f_ways f_isVerified f_wrong f_wrongAt f_size f_ranCount f_ranLast a_opOf a_dOf a_sOf a_nOf a_toOf a_kind a_lo a_hi a_z a_step a_origin a_reach a_wayAt a_seenKind a_seenLo a_seenHi a_seenZ a_jumped a_stayed a_memory a_isThere a_area a_value := by
  subst hc
  refine br_c (fun h => h0 (fun z => ?_)) (fun h => br_c (fun h' => qa_x128 post x1 x4 _ _ _ _ _ _ _ _ _ _ _ _ _ _ _ _ _ _ _ _ _ _ _ _ _ _ _ _ _ _ _ _ (fun k => h1 ⟨fun _ => ?_, k⟩) (fun nk => h0 (fun z => nk z.2))) (fun h' => h0 (fun z => ?_)))
  · have := z.1 ho
    simp only [qa_lt, qa_le, qa_eq, qa_l0, qa_l1, qa_l2, qa_l3, qa_l5, qa_l6, qa_l11, qa_l12, qa_l15, qa_l16, qa_l17, qa_l18, qa_l20, qa_l21, qa_l22, qa_l28, qa_l29, qa_l31, qa_l32, qa_l255, qa_l65535, qa_lm1] at h
    omega
  · simp only [qa_lt, qa_le, qa_eq, qa_l0, qa_l1, qa_l2, qa_l3, qa_l5, qa_l6, qa_l11, qa_l12, qa_l15, qa_l16, qa_l17, qa_l18, qa_l20, qa_l21, qa_l22, qa_l28, qa_l29, qa_l31, qa_l32, qa_l255, qa_l65535, qa_lm1] at h h'
    omega
  · have := z.1 ho
    simp only [qa_lt, qa_le, qa_eq, qa_l0, qa_l1, qa_l2, qa_l3, qa_l5, qa_l6, qa_l11, qa_l12, qa_l15, qa_l16, qa_l17, qa_l18, qa_l20, qa_l21, qa_l22, qa_l28, qa_l29, qa_l31, qa_l32, qa_l255, qa_l65535, qa_lm1] at h'
    omega
theorem qa_x99 (post : Int32 → Prop) (x1 x4 x5 x6 : Int32) (f_count f_conditions f_ways f_isVerified f_wrong f_wrongAt f_size f_ranCount f_ranLast : Int32) (a_opOf a_dOf a_sOf a_nOf a_toOf a_kind a_lo a_hi a_z a_step a_origin a_reach a_wayAt a_seenKind a_seenLo a_seenHi a_seenZ a_jumped a_stayed a_memory a_isThere a_area a_value : Nat → Int32) (hc : f_count = 0) (h6 : (22 ≤ x1.toInt ∧ x1.toInt ≤ 28 ∧ x6 = 1) ∨ (¬ (22 ≤ x1.toInt ∧ x1.toInt ≤ 28) ∧ x6 = 0)) (h1 : qa_K2 x1.toInt x4.toInt x5.toInt → post 1) (h0 : ¬ qa_K2 x1.toInt x4.toInt x5.toInt → post 0) : wX_isAsSaid_99 post x1 x4 x5 x6 f_count f_conditions f_ways f_isVerified f_wrong f_wrongAt f_size f_ranCount f_ranLast a_opOf a_dOf a_sOf a_nOf a_toOf a_kind a_lo a_hi a_z a_step a_origin a_reach a_wayAt a_seenKind a_seenLo a_seenHi a_seenZ a_jumped a_stayed a_memory a_isThere a_area a_value := by
  refine br_c (fun h => qa_x110 post x1 x4 x5 f_count f_conditions f_ways f_isVerified f_wrong f_wrongAt f_size f_ranCount f_ranLast a_opOf a_dOf a_sOf a_nOf a_toOf a_kind a_lo a_hi a_z a_step a_origin a_reach a_wayAt a_seenKind a_seenLo a_seenHi a_seenZ a_jumped a_stayed a_memory a_isThere a_area a_value hc h1 h0 ?_) (fun h => br_c (fun h' => qa_x128 post x1 x4 f_count f_conditions f_ways f_isVerified f_wrong f_wrongAt f_size f_ranCount f_ranLast a_opOf a_dOf a_sOf a_nOf a_toOf a_kind a_lo a_hi a_z a_step a_origin a_reach a_wayAt a_seenKind a_seenLo a_seenHi a_seenZ a_jumped a_stayed a_memory a_isThere a_area a_value (fun k => h1 ⟨fun hz => ?_, k⟩) (fun nk => h0 (fun z => nk z.2))) (fun h' => qa_x110 post x1 x4 x5 f_count f_conditions f_ways f_isVerified f_wrong f_wrongAt f_size f_ranCount f_ranLast a_opOf a_dOf a_sOf a_nOf a_toOf a_kind a_lo a_hi a_z a_step a_origin a_reach a_wayAt a_seenKind a_seenLo a_seenHi a_seenZ a_jumped a_stayed a_memory a_isThere a_area a_value hc h1 h0 ?_))
  · simp only [qa_lt, qa_le, qa_eq, qa_l0, qa_l1, qa_l2, qa_l3, qa_l5, qa_l6, qa_l11, qa_l12, qa_l15, qa_l16, qa_l17, qa_l18, qa_l20, qa_l21, qa_l22, qa_l28, qa_l29, qa_l31, qa_l32, qa_l255, qa_l65535, qa_lm1] at h
    omega
  · simp only [qa_lt, qa_le, qa_eq, qa_l0, qa_l1, qa_l2, qa_l3, qa_l5, qa_l6, qa_l11, qa_l12, qa_l15, qa_l16, qa_l17, qa_l18, qa_l20, qa_l21, qa_l22, qa_l28, qa_l29, qa_l31, qa_l32, qa_l255, qa_l65535, qa_lm1] at h
    rcases h6 with h6 | h6
    · exact absurd (h6.2.2.symm.trans h') (by decide)
    · omega
  · rcases h6 with h6 | h6
    · omega
    · exact absurd h6.2 h'
theorem qa_x87 (post : Int32 → Prop) (x1 x2 x3 x4 x5 x6 : Int32) (f_count f_conditions f_ways f_isVerified f_wrong f_wrongAt f_size f_ranCount f_ranLast : Int32) (a_opOf a_dOf a_sOf a_nOf a_toOf a_kind a_lo a_hi a_z a_step a_origin a_reach a_wayAt a_seenKind a_seenLo a_seenHi a_seenZ a_jumped a_stayed a_memory a_isThere a_area a_value : Nat → Int32) (hc : f_count = 0) (h6 : (22 ≤ x1.toInt ∧ x1.toInt ≤ 28 ∧ x6 = 1) ∨ (¬ (22 ≤ x1.toInt ∧ x1.toInt ≤ 28) ∧ x6 = 0)) (h1 : qa_K3 x1.toInt x2.toInt x3.toInt x4.toInt x5.toInt → post 1) (h0 : ¬ qa_K3 x1.toInt x2.toInt x3.toInt x4.toInt x5.toInt → post 0) : wX_isAsSaid_87 post x1 x2 x3 x4 x5 x6 f_count f_conditions f_ways f_isVerified f_wrong f_wrongAt f_size f_ranCount f_ranLast a_opOf a_dOf a_sOf a_nOf a_toOf a_kind a_lo a_hi a_z a_step a_origin a_reach a_wayAt a_seenKind a_seenLo a_seenHi a_seenZ a_jumped a_stayed a_memory a_isThere a_area a_value := by
  refine br_c (fun h => qa_x99 post x1 x4 x5 x6 f_count f_conditions f_ways f_isVerified f_wrong f_wrongAt f_size f_ranCount f_ranLast a_opOf a_dOf a_sOf a_nOf a_toOf a_kind a_lo a_hi a_z a_step a_origin a_reach a_wayAt a_seenKind a_seenLo a_seenHi a_seenZ a_jumped a_stayed a_memory a_isThere a_area a_value hc h6 (fun k => h1 ⟨fun hz => ?_, k⟩) (fun nk => h0 (fun z => nk z.2))) (fun h => br_c (fun h' => h0 (fun z => ?_)) (fun h' => qa_x99 post x1 x4 x5 x6 f_count f_conditions f_ways f_isVerified f_wrong f_wrongAt f_size f_ranCount f_ranLast a_opOf a_dOf a_sOf a_nOf a_toOf a_kind a_lo a_hi a_z a_step a_origin a_reach a_wayAt a_seenKind a_seenLo a_seenHi a_seenZ a_jumped a_stayed a_memory a_isThere a_area a_value hc h6 (fun k => h1 ⟨fun _ => ?_, k⟩) (fun nk => h0 (fun z => nk z.2))))
  · rcases h6 with h6 | h6
    · exact absurd (h6.2.2.symm.trans h) (by decide)
    · exact absurd hz h6.1
  · rcases h6 with h6 | h6
    · exact z.1 ⟨h6.1, h6.2.1⟩ (by rw [h'])
    · exact h h6.2
  · exact fun e => h' (Int32.toInt_inj.mp e)
theorem qa_x54 (post : Int32 → Prop) (x1 x2 x3 x4 x5 x6 : Int32) (f_count f_conditions f_ways f_isVerified f_wrong f_wrongAt f_size f_ranCount f_ranLast : Int32) (a_opOf a_dOf a_sOf a_nOf a_toOf a_kind a_lo a_hi a_z a_step a_origin a_reach a_wayAt a_seenKind a_seenLo a_seenHi a_seenZ a_jumped a_stayed a_memory a_isThere a_area a_value : Nat → Int32) (hc : f_count = 0) (h6 : (22 ≤ x1.toInt ∧ x1.toInt ≤ 28 ∧ x6 = 1) ∨ (¬ (22 ≤ x1.toInt ∧ x1.toInt ≤ 28) ∧ x6 = 0)) (h1 : qa_K4 x1.toInt x2.toInt x3.toInt x4.toInt x5.toInt → post 1) (h0 : ¬ qa_K4 x1.toInt x2.toInt x3.toInt x4.toInt x5.toInt → post 0) : wX_isAsSaid_54 post x1 x2 x3 x4 x5 x6 f_count f_conditions f_ways f_isVerified f_wrong f_wrongAt f_size f_ranCount f_ranLast a_opOf a_dOf a_sOf a_nOf a_toOf a_kind a_lo a_hi a_z a_step a_origin a_reach a_wayAt a_seenKind a_seenLo a_seenHi a_seenZ a_jumped a_stayed a_memory a_isThere a_area a_value := by
  have go : (((2 ≤ x1.toInt ∧ x1.toInt ≤ 11) ∨ (22 ≤ x1.toInt ∧ x1.toInt ≤ 28)) → (0 ≤ x3.toInt ∧ x3.toInt ≤ 5) ∨ (x3.toInt = -1 ∧ 0 ≤ x4.toInt ∧ x4.toInt ≤ 65535)) → wX_isAsSaid_87 post x1 x2 x3 x4 x5 x6 f_count f_conditions f_ways f_isVerified f_wrong f_wrongAt f_size f_ranCount f_ranLast a_opOf a_dOf a_sOf a_nOf a_toOf a_kind a_lo a_hi a_z a_step a_origin a_reach a_wayAt a_seenKind a_seenLo a_seenHi a_seenZ a_jumped a_stayed a_memory a_isThere a_area a_value := fun q => qa_x87 post x1 x2 x3 x4 x5 x6 f_count f_conditions f_ways f_isVerified f_wrong f_wrongAt f_size f_ranCount f_ranLast a_opOf a_dOf a_sOf a_nOf a_toOf a_kind a_lo a_hi a_z a_step a_origin a_reach a_wayAt a_seenKind a_seenLo a_seenHi a_seenZ a_jumped a_stayed a_memory a_isThere a_area a_value hc h6 (fun k => h1 ⟨q, k⟩) (fun nk => h0 (fun z => nk z.2))
  unfold wX_isAsSaid_54
  refine qa_xtakes _ x1 (fun t => br_f (by decide) (qa_xreg _ x3 (fun r => br_f (by decide) (go (fun _ => Or.inl r))) (fun r => br_t rfl (br_c (fun h => br_c (fun h' => h0 (fun z => ?_)) (fun h' => br_c (fun h'' => go (fun _ => Or.inr ?_)) (fun h'' => h0 (fun z => ?_)))) (fun h => h0 (fun z => ?_)))))) (fun t => br_t rfl (go (fun q => absurd q t)))
  · rcases z.1 t with e | e
    · exact r e
    · simp only [qa_lt, qa_le, qa_eq, qa_l0, qa_l1, qa_l2, qa_l3, qa_l5, qa_l6, qa_l11, qa_l12, qa_l15, qa_l16, qa_l17, qa_l18, qa_l20, qa_l21, qa_l22, qa_l28, qa_l29, qa_l31, qa_l32, qa_l255, qa_l65535, qa_lm1] at h'
      omega
  · simp only [qa_lt, qa_le, qa_eq, qa_l0, qa_l1, qa_l2, qa_l3, qa_l5, qa_l6, qa_l11, qa_l12, qa_l15, qa_l16, qa_l17, qa_l18, qa_l20, qa_l21, qa_l22, qa_l28, qa_l29, qa_l31, qa_l32, qa_l255, qa_l65535, qa_lm1] at h h' h''
    omega
  · rcases z.1 t with e | e
    · exact r e
    · simp only [qa_lt, qa_le, qa_eq, qa_l0, qa_l1, qa_l2, qa_l3, qa_l5, qa_l6, qa_l11, qa_l12, qa_l15, qa_l16, qa_l17, qa_l18, qa_l20, qa_l21, qa_l22, qa_l28, qa_l29, qa_l31, qa_l32, qa_l255, qa_l65535, qa_lm1] at h''
      omega
  · rcases z.1 t with e | e
    · exact r e
    · simp only [qa_lt, qa_le, qa_eq, qa_l0, qa_l1, qa_l2, qa_l3, qa_l5, qa_l6, qa_l11, qa_l12, qa_l15, qa_l16, qa_l17, qa_l18, qa_l20, qa_l21, qa_l22, qa_l28, qa_l29, qa_l31, qa_l32, qa_l255, qa_l65535, qa_lm1] at h
      omega
theorem qa_x38 (post : Int32 → Prop) (x1 x2 x3 x4 x5 x6 : Int32) (f_count f_conditions f_ways f_isVerified f_wrong f_wrongAt f_size f_ranCount f_ranLast : Int32) (a_opOf a_dOf a_sOf a_nOf a_toOf a_kind a_lo a_hi a_z a_step a_origin a_reach a_wayAt a_seenKind a_seenLo a_seenHi a_seenZ a_jumped a_stayed a_memory a_isThere a_area a_value : Nat → Int32) (hc : f_count = 0) (h6 : (22 ≤ x1.toInt ∧ x1.toInt ≤ 28 ∧ x6 = 1) ∨ (¬ (22 ≤ x1.toInt ∧ x1.toInt ≤ 28) ∧ x6 = 0)) (h1 : qa_K5 x1.toInt x2.toInt x3.toInt x4.toInt x5.toInt → post 1) (h0 : ¬ qa_K5 x1.toInt x2.toInt x3.toInt x4.toInt x5.toInt → post 0) : wX_isAsSaid_38 post x1 x2 x3 x4 x5 x6 f_count f_conditions f_ways f_isVerified f_wrong f_wrongAt f_size f_ranCount f_ranLast a_opOf a_dOf a_sOf a_nOf a_toOf a_kind a_lo a_hi a_z a_step a_origin a_reach a_wayAt a_seenKind a_seenLo a_seenHi a_seenZ a_jumped a_stayed a_memory a_isThere a_area a_value := by
  have go : ((x1.toInt = 1 ∨ (12 ≤ x1.toInt ∧ x1.toInt ≤ 15)) → 0 ≤ x3.toInt ∧ x3.toInt ≤ 5) → wX_isAsSaid_54 post x1 x2 x3 x4 x5 x6 f_count f_conditions f_ways f_isVerified f_wrong f_wrongAt f_size f_ranCount f_ranLast a_opOf a_dOf a_sOf a_nOf a_toOf a_kind a_lo a_hi a_z a_step a_origin a_reach a_wayAt a_seenKind a_seenLo a_seenHi a_seenZ a_jumped a_stayed a_memory a_isThere a_area a_value := fun q => qa_x54 post x1 x2 x3 x4 x5 x6 f_count f_conditions f_ways f_isVerified f_wrong f_wrongAt f_size f_ranCount f_ranLast a_opOf a_dOf a_sOf a_nOf a_toOf a_kind a_lo a_hi a_z a_step a_origin a_reach a_wayAt a_seenKind a_seenLo a_seenHi a_seenZ a_jumped a_stayed a_memory a_isThere a_area a_value hc h6 (fun k => h1 ⟨q, k⟩) (fun nk => h0 (fun z => nk z.2))
  unfold wX_isAsSaid_38
  exact qa_xneed _ x1 (fun t => br_f (by decide) (qa_xreg _ x3 (fun r => br_f (by decide) (go (fun _ => r))) (fun r => br_t rfl (h0 (fun z => r (z.1 t)))))) (fun t => br_t rfl (go (fun q => absurd q t)))
theorem qa_x29 (post : Int32 → Prop) (x1 x2 x3 x4 x5 x6 : Int32) (f_count f_conditions f_ways f_isVerified f_wrong f_wrongAt f_size f_ranCount f_ranLast : Int32) (a_opOf a_dOf a_sOf a_nOf a_toOf a_kind a_lo a_hi a_z a_step a_origin a_reach a_wayAt a_seenKind a_seenLo a_seenHi a_seenZ a_jumped a_stayed a_memory a_isThere a_area a_value : Nat → Int32) (hc : f_count = 0) (h6 : (22 ≤ x1.toInt ∧ x1.toInt ≤ 28 ∧ x6 = 1) ∨ (¬ (22 ≤ x1.toInt ∧ x1.toInt ≤ 28) ∧ x6 = 0)) (h1 : qa_K6 x1.toInt x2.toInt x3.toInt x4.toInt x5.toInt → post 1) (h0 : ¬ qa_K6 x1.toInt x2.toInt x3.toInt x4.toInt x5.toInt → post 0) (ht : x1.toInt ≤ 17 ∨ (22 ≤ x1.toInt ∧ x1.toInt ≤ 28)) : wX_isAsSaid_29 post x1 x2 x3 x4 x5 x6 f_count f_conditions f_ways f_isVerified f_wrong f_wrongAt f_size f_ranCount f_ranLast a_opOf a_dOf a_sOf a_nOf a_toOf a_kind a_lo a_hi a_z a_step a_origin a_reach a_wayAt a_seenKind a_seenLo a_seenHi a_seenZ a_jumped a_stayed a_memory a_isThere a_area a_value := by
  unfold wX_isAsSaid_29
  exact qa_xreg _ x2 (fun r => br_f (by decide) (qa_x38 post x1 x2 x3 x4 x5 x6 f_count f_conditions f_ways f_isVerified f_wrong f_wrongAt f_size f_ranCount f_ranLast a_opOf a_dOf a_sOf a_nOf a_toOf a_kind a_lo a_hi a_z a_step a_origin a_reach a_wayAt a_seenKind a_seenLo a_seenHi a_seenZ a_jumped a_stayed a_memory a_isThere a_area a_value hc h6 (fun k => h1 ⟨fun _ => r, k⟩) (fun nk => h0 (fun z => nk z.2)))) (fun r => br_t rfl (h0 (fun z => r (z.1 ht))))
theorem qa_xsaid (post : Int32 → Prop) (f_count f_conditions f_ways f_isVerified f_wrong f_wrongAt f_size f_ranCount f_ranLast : Int32) (a_opOf a_dOf a_sOf a_nOf a_toOf a_kind a_lo a_hi a_z a_step a_origin a_reach a_wayAt a_seenKind a_seenLo a_seenHi a_seenZ a_jumped a_stayed a_memory a_isThere a_area a_value : Nat → Int32) (x1 x2 x3 x4 x5 : Int32) (hc : f_count = 0) (h1 : qa_K7 x1.toInt x2.toInt x3.toInt x4.toInt x5.toInt → post 1) (h0 : ¬ qa_K7 x1.toInt x2.toInt x3.toInt x4.toInt x5.toInt → post 0) : wpX_isAsSaid post (f_count, f_conditions, f_ways, f_isVerified, f_wrong, f_wrongAt, f_size, f_ranCount, f_ranLast, a_opOf, a_dOf, a_sOf, a_nOf, a_toOf, a_kind, a_lo, a_hi, a_z, a_step, a_origin, a_reach, a_wayAt, a_seenKind, a_seenLo, a_seenHi, a_seenZ, a_jumped, a_stayed, a_memory, a_isThere, a_area, a_value) x1 x2 x3 x4 x5 := by
  refine br_c (fun h => h0 (fun z => ?_)) (fun h => br_c (fun h' => ?_) (fun h' => h0 (fun z => ?_)))
  · have := z.1
    simp only [qa_lt, qa_le, qa_eq, qa_l0, qa_l1, qa_l2, qa_l3, qa_l5, qa_l6, qa_l11, qa_l12, qa_l15, qa_l16, qa_l17, qa_l18, qa_l20, qa_l21, qa_l22, qa_l28, qa_l29, qa_l31, qa_l32, qa_l255, qa_l65535, qa_lm1] at h
    omega
  · have hr : 0 ≤ x1.toInt ∧ x1.toInt ≤ 29 := by
      simp only [qa_lt, qa_le, qa_eq, qa_l0, qa_l1, qa_l2, qa_l3, qa_l5, qa_l6, qa_l11, qa_l12, qa_l15, qa_l16, qa_l17, qa_l18, qa_l20, qa_l21, qa_l22, qa_l28, qa_l29, qa_l31, qa_l32, qa_l255, qa_l65535, qa_lm1] at h h'
      omega
    have g1 : qa_K6 x1.toInt x2.toInt x3.toInt x4.toInt x5.toInt → post 1 := fun k => h1 ⟨hr, k⟩
    have g0 : ¬ qa_K6 x1.toInt x2.toInt x3.toInt x4.toInt x5.toInt → post 0 := fun nk => h0 (fun z => nk z.2)
    refine qa_xcond _ x1 (fun c => br_c (fun h3 => ?_) (fun h3 => br_f (by decide) ?_)) (fun c => br_c (fun h3 => ?_) (fun h3 => br_t rfl ?_))
    · exact qa_x29 post x1 x2 x3 x4 x5 1 f_count f_conditions f_ways f_isVerified f_wrong f_wrongAt f_size f_ranCount f_ranLast a_opOf a_dOf a_sOf a_nOf a_toOf a_kind a_lo a_hi a_z a_step a_origin a_reach a_wayAt a_seenKind a_seenLo a_seenHi a_seenZ a_jumped a_stayed a_memory a_isThere a_area a_value hc (Or.inl ⟨c.1, c.2, rfl⟩) g1 g0 (Or.inr c)
    · exact qa_x29 post x1 x2 x3 x4 x5 1 f_count f_conditions f_ways f_isVerified f_wrong f_wrongAt f_size f_ranCount f_ranLast a_opOf a_dOf a_sOf a_nOf a_toOf a_kind a_lo a_hi a_z a_step a_origin a_reach a_wayAt a_seenKind a_seenLo a_seenHi a_seenZ a_jumped a_stayed a_memory a_isThere a_area a_value hc (Or.inl ⟨c.1, c.2, rfl⟩) g1 g0 (Or.inr c)
    · refine qa_x29 post x1 x2 x3 x4 x5 0 f_count f_conditions f_ways f_isVerified f_wrong f_wrongAt f_size f_ranCount f_ranLast a_opOf a_dOf a_sOf a_nOf a_toOf a_kind a_lo a_hi a_z a_step a_origin a_reach a_wayAt a_seenKind a_seenLo a_seenHi a_seenZ a_jumped a_stayed a_memory a_isThere a_area a_value hc (Or.inr ⟨c, rfl⟩) g1 g0 (Or.inl ?_)
      simp only [qa_lt, qa_le, qa_eq, qa_l0, qa_l1, qa_l2, qa_l3, qa_l5, qa_l6, qa_l11, qa_l12, qa_l15, qa_l16, qa_l17, qa_l18, qa_l20, qa_l21, qa_l22, qa_l28, qa_l29, qa_l31, qa_l32, qa_l255, qa_l65535, qa_lm1] at h3
      exact h3
    · refine qa_x38 post x1 x2 x3 x4 x5 0 f_count f_conditions f_ways f_isVerified f_wrong f_wrongAt f_size f_ranCount f_ranLast a_opOf a_dOf a_sOf a_nOf a_toOf a_kind a_lo a_hi a_z a_step a_origin a_reach a_wayAt a_seenKind a_seenLo a_seenHi a_seenZ a_jumped a_stayed a_memory a_isThere a_area a_value hc (Or.inr ⟨c, rfl⟩) (fun k => g1 ⟨fun q => ?_, k⟩) (fun nk => g0 (fun z => nk z.2))
      simp only [qa_lt, qa_le, qa_eq, qa_l0, qa_l1, qa_l2, qa_l3, qa_l5, qa_l6, qa_l11, qa_l12, qa_l15, qa_l16, qa_l17, qa_l18, qa_l20, qa_l21, qa_l22, qa_l28, qa_l29, qa_l31, qa_l32, qa_l255, qa_l65535, qa_lm1] at h3
      omega
  · have := z.1
    simp only [qa_lt, qa_le, qa_eq, qa_l0, qa_l1, qa_l2, qa_l3, qa_l5, qa_l6, qa_l11, qa_l12, qa_l15, qa_l16, qa_l17, qa_l18, qa_l20, qa_l21, qa_l22, qa_l28, qa_l29, qa_l31, qa_l32, qa_l255, qa_l65535, qa_lm1] at h'
    omega
theorem qa_x114 (post : Int32 → SX → Prop) (f_count f_conditions f_ways f_isVerified f_wrong f_wrongAt f_size f_ranCount f_ranLast : Int32) (a_opOf a_dOf a_sOf a_nOf a_toOf a_kind a_lo a_hi a_z a_step a_origin a_reach a_wayAt a_seenKind a_seenLo a_seenHi a_seenZ a_jumped a_stayed a_memory a_isThere a_area a_value : Nat → Int32) (hc : f_count = 0) (H : ∀ u' : SX, post 0 u') : wX_code_114 post f_count f_conditions f_ways f_isVerified f_wrong f_wrongAt f_size f_ranCount f_ranLast a_opOf a_dOf a_sOf a_nOf a_toOf a_kind a_lo a_hi a_z a_step a_origin a_reach a_wayAt a_seenKind a_seenLo a_seenHi a_seenZ a_jumped a_stayed a_memory a_isThere a_area a_value := by
  intro f ef
  have e : f - 1 = 0 := by rw [ef, hc] <;> decide
  rw [e]
  exact H _
theorem qa_x47 (post : Int32 → SX → Prop) (x1 x2 x3 x4 x5 x6 : Int32) (f_count f_conditions f_ways f_isVerified f_wrong f_wrongAt f_size f_ranCount f_ranLast : Int32) (a_opOf a_dOf a_sOf a_nOf a_toOf a_kind a_lo a_hi a_z a_step a_origin a_reach a_wayAt a_seenKind a_seenLo a_seenHi a_seenZ a_jumped a_stayed a_memory a_isThere a_area a_value : Nat → Int32) (hc : f_count = 0) (H : ∀ u' : SX, post 0 u') : wX_code_47 post x1 x2 x3 x4 x5 x6 f_count f_conditions f_ways f_isVerified f_wrong f_wrongAt f_size f_ranCount f_ranLast a_opOf a_dOf a_sOf a_nOf a_toOf a_kind a_lo a_hi a_z a_step a_origin a_reach a_wayAt a_seenKind a_seenLo a_seenHi a_seenZ a_jumped a_stayed a_memory a_isThere a_area a_value := by
  have hi : vp_in f_count 32 := by rw [hc]; exact vp_in_iff.mpr (by decide)
  exact And.intro hi fun b1 _ => And.intro hi fun b2 _ => And.intro hi fun b3 _ => And.intro hi fun b4 _ => And.intro hi fun b5 _ => br_c (fun _ => qa_x114 post _ _ _ _ _ _ _ _ _ _ _ _ _ _ _ _ _ _ _ _ _ _ _ _ _ _ _ _ _ _ _ _ hc H) (fun _ c _ => qa_x114 post _ _ _ _ _ _ _ _ _ _ _ _ _ _ _ _ _ _ _ _ _ _ _ _ _ _ _ _ _ _ _ _ hc H)
theorem qa_xcode (post : Int32 → SX → Prop) (f_count f_conditions f_ways f_isVerified f_wrong f_wrongAt f_size f_ranCount f_ranLast : Int32) (a_opOf a_dOf a_sOf a_nOf a_toOf a_kind a_lo a_hi a_z a_step a_origin a_reach a_wayAt a_seenKind a_seenLo a_seenHi a_seenZ a_jumped a_stayed a_memory a_isThere a_area a_value : Nat → Int32) (x1 x2 x3 x4 x5 : Int32) (hc : f_count = 0) (hd : f_conditions = 0) (h1 : qa_K7 x1.toInt x2.toInt x3.toInt x4.toInt x5.toInt → ∀ u' : SX, post 0 u') (h0 : ¬ qa_K7 x1.toInt x2.toInt x3.toInt x4.toInt x5.toInt → ∀ u' : SX, post (-1) u') : wpX_code post (f_count, f_conditions, f_ways, f_isVerified, f_wrong, f_wrongAt, f_size, f_ranCount, f_ranLast, a_opOf, a_dOf, a_sOf, a_nOf, a_toOf, a_kind, a_lo, a_hi, a_z, a_step, a_origin, a_reach, a_wayAt, a_seenKind, a_seenLo, a_seenHi, a_seenZ, a_jumped, a_stayed, a_memory, a_isThere, a_area, a_value) x1 x2 x3 x4 x5 := by
  have n32 : ¬ f_count = 32 := by rw [hc] <;> decide
  have n5 : ¬ f_conditions = 5 := by rw [hd] <;> decide
  unfold wpX_code
  refine qa_xsaid _ f_count f_conditions f_ways f_isVerified f_wrong f_wrongAt f_size f_ranCount f_ranLast a_opOf a_dOf a_sOf a_nOf a_toOf a_kind a_lo a_hi a_z a_step a_origin a_reach a_wayAt a_seenKind a_seenLo a_seenHi a_seenZ a_jumped a_stayed a_memory a_isThere a_area a_value x1 x2 x3 x4 x5 hc (fun k => br_f (by decide) ?_) (fun nk => br_t rfl (h0 nk _))
  exact qa_xcond _ x1 (fun _ => br_f n32 (br_f (by decide) (br_f n5 (qa_x47 post _ _ _ _ _ _ f_count f_conditions f_ways f_isVerified f_wrong f_wrongAt f_size f_ranCount f_ranLast a_opOf a_dOf a_sOf a_nOf a_toOf a_kind a_lo a_hi a_z a_step a_origin a_reach a_wayAt a_seenKind a_seenLo a_seenHi a_seenZ a_jumped a_stayed a_memory a_isThere a_area a_value hc (h1 k))))) (fun _ => br_f n32 (br_t rfl (qa_x47 post _ _ _ _ _ _ f_count f_conditions f_ways f_isVerified f_wrong f_wrongAt f_size f_ranCount f_ranLast a_opOf a_dOf a_sOf a_nOf a_toOf a_kind a_lo a_hi a_z a_step a_origin a_reach a_wayAt a_seenKind a_seenLo a_seenHi a_seenZ a_jumped a_stayed a_memory a_isThere a_area a_value hc (h1 k))))
