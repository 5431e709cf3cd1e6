theorem qa_mul (a b : Nat) : nI a * nI b = nI (a * b) := (Int32.ofNat_mul a b).symm
theorem qa_8 (i j : Nat) : (8 : Int32) * nI i + nI j = nI (8 * i + j) := by
  show nI 8 * nI i + nI j = _
  rw [qa_mul, nI_add]
theorem qa_xe52 (post : Int32 → SX → Prop) (x1 x2 x3 x4 : Int32) (f_count f_conditions f_ways f_isVerified f_wrong f_wrongAt f_size f_ranCount f_ranLast : Int32) (a_opOf a_dOf a_sOf a_nOf a_toOf a_kind a_lo a_hi a_z a_step a_origin a_reach a_wayAt a_seenKind a_seenLo a_seenHi a_seenZ a_jumped a_stayed a_memory a_isThere a_area a_value : Nat → Int32) (H : ∀ u' : SX, post 1 u') (h1 : vp_in x1 8) (h2 : vp_in (x4 + x2) 80) : wX_enter_52 post x1 x2 x3 x4 f_count f_conditions f_ways f_isVerified f_wrong f_wrongAt f_size f_ranCount f_ranLast a_opOf a_dOf a_sOf a_nOf a_toOf a_kind a_lo a_hi a_z a_step a_origin a_reach a_wayAt a_seenKind a_seenLo a_seenHi a_seenZ a_jumped a_stayed a_memory a_isThere a_area a_value := And.intro h1 fun _ _ => And.intro h2 fun _ _ => H _
theorem qa_xe28 (post : Int32 → SX → Prop) (i j : Nat) (hi : i < 8) (hj : j < 8) (x3 : Int32) (f_count f_conditions f_ways f_isVerified f_wrong f_wrongAt f_size f_ranCount f_ranLast : Int32) (H : ∀ u' : SX, post 1 u') : ∀ d m : Nat, m + d = 8 → ∀ (a_opOf a_dOf a_sOf a_nOf a_toOf a_kind a_lo a_hi a_z a_step a_origin a_reach a_wayAt a_seenKind a_seenLo a_seenHi a_seenZ a_jumped a_stayed a_memory a_isThere a_area a_value : Nat → Int32), wX_enter_28 post (nI i) (nI j) x3 (nI (i * 8)) f_count f_conditions f_ways f_isVerified f_wrong f_wrongAt f_size f_ranCount f_ranLast (d + 1) (nI m) a_opOf a_dOf a_sOf a_nOf a_toOf a_kind a_lo a_hi a_z a_step a_origin a_reach a_wayAt a_seenKind a_seenLo a_seenHi a_seenZ a_jumped a_stayed a_memory a_isThere a_area a_value := by
  intro d
  induction d with
  | zero =>
    intro m hm a_opOf a_dOf a_sOf a_nOf a_toOf a_kind a_lo a_hi a_z a_step a_origin a_reach a_wayAt a_seenKind a_seenLo a_seenHi a_seenZ a_jumped a_stayed a_memory a_isThere a_area a_value
    exact br_t (qa_ge (b := 8) rfl (by omega) (by omega)) (qa_xe52 post _ _ _ _ f_count f_conditions f_ways f_isVerified f_wrong f_wrongAt f_size f_ranCount f_ranLast a_opOf a_dOf a_sOf a_nOf a_toOf a_kind a_lo a_hi a_z a_step a_origin a_reach a_wayAt a_seenKind a_seenLo a_seenHi a_seenZ a_jumped a_stayed a_memory a_isThere a_area a_value H (vp_in_nI hi (by decide)) (by rw [nI_add]; exact vp_in_nI (by omega) (by decide)))
  | succ d ih =>
    intro m hm a_opOf a_dOf a_sOf a_nOf a_toOf a_kind a_lo a_hi a_z a_step a_origin a_reach a_wayAt a_seenKind a_seenLo a_seenHi a_seenZ a_jumped a_stayed a_memory a_isThere a_area a_value
    refine br_f (qa_ng (b := 8) rfl (by omega) (by decide)) ⟨by rw [nI_add]; exact vp_in_nI (by omega) (by decide), fun s _ x ex => ?_⟩
    rw [ex, nI_1]
    exact ih (m + 1) (by omega) _ _ _ _ _ _ _ _ _ _ _ _ _ _ _ _ _ _ _ _ _ _ _
theorem qa_ye60 (post : Int32 → SY → Prop) (x1 x2 x3 : Int32) (f_count f_verified f_wrongAt f_wrong f_size f_done f_last : Int32) (a_ops a_ds a_ss a_ns a_tos a_kind a_lo a_hi a_zeros a_step a_origin a_reach a_kinds a_least a_greatest a_fewest a_jumps a_falls a_bytes a_cells a_there a_sort a_value a_which : Nat → Int32) (H : ∀ v' : SY, post 1 v') (h1 : vp_in x1 8) (h2 : vp_in (8 * x1 + x2) 64) : wY_enter_60 post x1 x2 x3 f_count f_verified f_wrongAt f_wrong f_size f_done f_last a_ops a_ds a_ss a_ns a_tos a_kind a_lo a_hi a_zeros a_step a_origin a_reach a_kinds a_least a_greatest a_fewest a_jumps a_falls a_bytes a_cells a_there a_sort a_value a_which := And.intro h1 fun _ _ => And.intro h2 fun _ _ => H _
theorem qa_ye25 (post : Int32 → SY → Prop) (i j : Nat) (hi : i < 8) (hj : j < 8) (x3 : Int32) (f_count f_verified f_wrongAt f_wrong f_size f_done f_last : Int32) (H : ∀ v' : SY, post 1 v') : ∀ d m : Nat, m + d = 8 → ∀ (a_ops a_ds a_ss a_ns a_tos a_kind a_lo a_hi a_zeros a_step a_origin a_reach a_kinds a_least a_greatest a_fewest a_jumps a_falls a_bytes a_cells a_there a_sort a_value a_which : Nat → Int32), wY_enter_25 post (nI i) (nI j) x3 f_count f_verified f_wrongAt f_wrong f_size f_done f_last (d + 1) (nI m) a_ops a_ds a_ss a_ns a_tos a_kind a_lo a_hi a_zeros a_step a_origin a_reach a_kinds a_least a_greatest a_fewest a_jumps a_falls a_bytes a_cells a_there a_sort a_value a_which := by
  intro d
  induction d with
  | zero =>
    intro m hm a_ops a_ds a_ss a_ns a_tos a_kind a_lo a_hi a_zeros a_step a_origin a_reach a_kinds a_least a_greatest a_fewest a_jumps a_falls a_bytes a_cells a_there a_sort a_value a_which
    exact br_t (qa_ge (b := 8) rfl (by omega) (by omega)) (qa_ye60 post _ _ _ f_count f_verified f_wrongAt f_wrong f_size f_done f_last a_ops a_ds a_ss a_ns a_tos a_kind a_lo a_hi a_zeros a_step a_origin a_reach a_kinds a_least a_greatest a_fewest a_jumps a_falls a_bytes a_cells a_there a_sort a_value a_which H (vp_in_nI hi (by decide)) (by rw [qa_8]; exact vp_in_nI (by omega) (by decide)))
  | succ d ih =>
    intro m hm a_ops a_ds a_ss a_ns a_tos a_kind a_lo a_hi a_zeros a_step a_origin a_reach a_kinds a_least a_greatest a_fewest a_jumps a_falls a_bytes a_cells a_there a_sort a_value a_which
    refine br_f (qa_ng (b := 8) rfl (by omega) (by decide)) ⟨vp_in_nI hi (by decide), br_c (fun _ => ⟨by rw [qa_8]; exact vp_in_nI (by omega) (by decide), fun s _ x ex => ?_⟩) (fun _ => qa_ye60 post _ _ _ f_count f_verified f_wrongAt f_wrong f_size f_done f_last a_ops a_ds a_ss a_ns a_tos a_kind a_lo a_hi a_zeros a_step a_origin a_reach a_kinds a_least a_greatest a_fewest a_jumps a_falls a_bytes a_cells a_there a_sort a_value a_which H (vp_in_nI hi (by decide)) (by rw [qa_8]; exact vp_in_nI (by omega) (by decide)))⟩
    rw [ex, nI_1]
    exact ih (m + 1) (by omega) _ _ _ _ _ _ _ _ _ _ _ _ _ _ _ _ _ _ _ _ _ _ _ _
theorem qa_n7 {i : Nat} (hi : i < 8) : ¬ (7 : Int32) < nI i := nI_nlt (b := i) (a := 7) (by omega) (by decide)
theorem qa_yenter (post : Int32 → SY → Prop) (v : SY) (i j : Nat) (hi : i < 8) (hj : j < 8) (x3 : Int32) (H : ∀ v' : SY, post 1 v') : wpY_enter post v (nI i) (nI j) x3 := by
  obtain ⟨f_count, f_verified, f_wrongAt, f_wrong, f_size, f_done, f_last, a_ops, a_ds, a_ss, a_ns, a_tos, a_kind, a_lo, a_hi, a_zeros, a_step, a_origin, a_reach, a_kinds, a_least, a_greatest, a_fewest, a_jumps, a_falls, a_bytes, a_cells, a_there, a_sort, a_value, a_which⟩ := v
  exact br_f (nI_pos (by omega)) (br_f (qa_n7 hi) (br_f (by decide) (br_f (nI_pos (by omega)) (br_f (qa_n7 hj) (br_f (by decide) ⟨9, qa_ye25 post i j hi hj x3 f_count f_verified f_wrongAt f_wrong f_size f_done f_last H 8 0 rfl a_ops a_ds a_ss a_ns a_tos a_kind a_lo a_hi a_zeros a_step a_origin a_reach a_kinds a_least a_greatest a_fewest a_jumps a_falls a_bytes a_cells a_there a_sort a_value a_which⟩)))))
theorem qa_of8 {x : Int32} (h0 : ¬ x < 0) (h : ¬ 8 ≤ x) : ∃ i : Nat, i < 8 ∧ x = nI i := vp_in_of (qa_in8 h0 h) (by decide)
theorem i_vc_enter {k : Nat} {u : SX} {v : SY} (I : i_Rel k u v) (hk : k + 6 ≤ 6) (v1 : Int32) (v2 : Int32) (v3 : Int32) : wpX_enter (fun r u' => wpY_enter (fun r' v' => r' = r ∧ i_Rel (k + 6) u' v') v v1 v2 v3) u v1 v2 v3 := by
  obtain ⟨hu, hv⟩ := qa_k I hk
  subst hu hv
  by_cases h0 : v1 < 0
  · exact br_t h0 (br_t rfl (br_t h0 (br_t rfl ⟨rfl, qa_tail⟩)))
  by_cases h8 : 8 ≤ v1
  · exact br_f h0 (br_t h8 (br_t rfl (br_f h0 (br_t (qa_78 h8) (br_t rfl ⟨rfl, qa_tail⟩)))))
  by_cases k0 : v2 < 0
  · exact br_f h0 (br_f h8 (br_t k0 (br_t rfl (br_f h0 (br_f (qa_87 h8) (br_f (by decide) (br_t k0 (br_t rfl ⟨rfl, qa_tail⟩))))))))
  by_cases k8 : 8 ≤ v2
  · exact br_f h0 (br_f h8 (br_f k0 (br_t k8 (br_t rfl (br_f h0 (br_f (qa_87 h8) (br_f (by decide) (br_f k0 (br_t (qa_78 k8) (br_t rfl ⟨rfl, qa_tail⟩))))))))))
  · obtain ⟨i, hi, rfl⟩ := qa_of8 h0 h8
    obtain ⟨j, hj, rfl⟩ := qa_of8 k0 k8
    refine br_f h0 (br_f h8 (br_f k0 (br_f k8 (br_f (by decide) (fun x ex => ⟨vp_in_nI hi (by decide), br_t rfl ⟨9, ?_⟩⟩)))))
    have e : x = nI (i * 8) := ex.trans (qa_mul i 8)
    rw [e]
    exact qa_xe28 _ i j hi hj v3 _ _ _ _ _ _ _ _ _ (fun _ => qa_yenter _ _ i j hi hj v3 (fun _ => ⟨rfl, qa_tail⟩)) 8 0 rfl _ _ _ _ _ _ _ _ _ _ _ _ _ _ _ _ _ _ _ _ _ _ _
