theorem qa_f24 (post : SX → Prop) (f_count f_conditions f_ways f_isVerified f_wrong f_wrongAt f_size f_ranCount f_ranLast : Int32) (H : ∀ u' : SX, u'.1 = f_count → u'.2.2.2.2.1 = 0 → post u') : ∀ d m : Nat, m + d = 32 → ∀ (a_opOf a_dOf a_sOf a_nOf a_toOf a_kind a_lo a_hi a_z a_step a_origin a_reach a_wayAt a_seenKind a_seenLo a_seenHi a_seenZ a_jumped a_stayed a_memory a_isThere a_area a_value : Nat → Int32), wX_forgetWhatWasFound_24 post f_count f_conditions f_ways f_isVerified f_wrong f_wrongAt f_size f_ranCount f_ranLast (d + 1) (nI m) a_opOf a_dOf a_sOf a_nOf a_toOf a_kind a_lo a_hi a_z a_step a_origin a_reach a_wayAt a_seenKind a_seenLo a_seenHi a_seenZ a_jumped a_stayed a_memory a_isThere a_area a_value := by
  intro d
  induction d with
  | zero =>
    intro m hm a_opOf a_dOf a_sOf a_nOf a_toOf a_kind a_lo a_hi a_z a_step a_origin a_reach a_wayAt a_seenKind a_seenLo a_seenHi a_seenZ a_jumped a_stayed a_memory a_isThere a_area a_value
    exact br_t (qa_ge (b := 32) rfl (by omega) (by omega)) (H _ rfl rfl)
  | succ d ih =>
    intro m hm a_opOf a_dOf a_sOf a_nOf a_toOf a_kind a_lo a_hi a_z a_step a_origin a_reach a_wayAt a_seenKind a_seenLo a_seenHi a_seenZ a_jumped a_stayed a_memory a_isThere a_area a_value
    refine br_f (qa_ng (b := 32) rfl (by omega) (by decide)) ⟨vp_in_nI (by omega) (by decide), fun j _ => ⟨vp_in_nI (by omega) (by decide), fun s _ x ex => ?_⟩⟩
    rw [ex, nI_1]
    exact ih (m + 1) (by omega) _ _ _ _ _ _ _ _ _ _ _ _ _ _ _ _ _ _ _ _ _ _ _
theorem qa_f2 (post : SX → Prop) (f_count f_conditions f_ways f_isVerified f_wrong f_wrongAt f_size f_ranCount f_ranLast : Int32) (H : ∀ u' : SX, u'.1 = f_count → u'.2.2.2.2.1 = 0 → post u') : ∀ d m : Nat, m + d = 320 → ∀ (a_opOf a_dOf a_sOf a_nOf a_toOf a_kind a_lo a_hi a_z a_step a_origin a_reach a_wayAt a_seenKind a_seenLo a_seenHi a_seenZ a_jumped a_stayed a_memory a_isThere a_area a_value : Nat → Int32), wX_forgetWhatWasFound_2 post f_count f_conditions f_ways f_isVerified f_wrong f_wrongAt f_size f_ranCount f_ranLast (d + 1) (nI m) a_opOf a_dOf a_sOf a_nOf a_toOf a_kind a_lo a_hi a_z a_step a_origin a_reach a_wayAt a_seenKind a_seenLo a_seenHi a_seenZ a_jumped a_stayed a_memory a_isThere a_area a_value := by
  intro d
  induction d with
  | zero =>
    intro m hm a_opOf a_dOf a_sOf a_nOf a_toOf a_kind a_lo a_hi a_z a_step a_origin a_reach a_wayAt a_seenKind a_seenLo a_seenHi a_seenZ a_jumped a_stayed a_memory a_isThere a_area a_value
    exact br_t (qa_ge (b := 320) rfl (by omega) (by omega)) ⟨33, qa_f24 post f_count f_conditions f_ways f_isVerified f_wrong f_wrongAt f_size f_ranCount f_ranLast H 32 0 rfl a_opOf a_dOf a_sOf a_nOf a_toOf a_kind a_lo a_hi a_z a_step a_origin a_reach a_wayAt a_seenKind a_seenLo a_seenHi a_seenZ a_jumped a_stayed a_memory a_isThere a_area a_value⟩
  | succ d ih =>
    intro m hm a_opOf a_dOf a_sOf a_nOf a_toOf a_kind a_lo a_hi a_z a_step a_origin a_reach a_wayAt a_seenKind a_seenLo a_seenHi a_seenZ a_jumped a_stayed a_memory a_isThere a_area a_value
    refine br_f (qa_ng (b := 320) rfl (by omega) (by decide)) ⟨vp_in_nI (by omega) (by decide), fun s _ x ex => ?_⟩
    rw [ex, nI_1]
    exact ih (m + 1) (by omega) _ _ _ _ _ _ _ _ _ _ _ _ _ _ _ _ _ _ _ _ _ _ _
theorem qa_forget (post : SX → Prop) (u : SX) (H : ∀ u' : SX, u'.1 = u.1 → u'.2.2.2.2.1 = 0 → post u') : wpX_forgetWhatWasFound post u := by
  obtain ⟨f_count, f_conditions, f_ways, f_isVerified, f_wrong, f_wrongAt, f_size, f_ranCount, f_ranLast, a_opOf, a_dOf, a_sOf, a_nOf, a_toOf, a_kind, a_lo, a_hi, a_z, a_step, a_origin, a_reach, a_wayAt, a_seenKind, a_seenLo, a_seenHi, a_seenZ, a_jumped, a_stayed, a_memory, a_isThere, a_area, a_value⟩ := u
  exact Exists.intro 321 (qa_f2 post f_count f_conditions f_ways f_isVerified f_wrong f_wrongAt f_size f_ranCount f_ranLast H 320 0 rfl a_opOf a_dOf a_sOf a_nOf a_toOf a_kind a_lo a_hi a_z a_step a_origin a_reach a_wayAt a_seenKind a_seenLo a_seenHi a_seenZ a_jumped a_stayed a_memory a_isThere a_area a_value)
theorem qa_b23 (post : SX → Prop) (H : ∀ u' : SX, u'.1 = 0 → u'.2.2.2.2.1 = 0 → u'.2.2.2.2.2.2.2.2.2.2.2.2.2.2.2.2.2.2.2.2.2.1 0 = 0 → post u') : ∀ d m : Nat, m + d = 10 → ∀ (f_count f_conditions f_ways f_isVerified f_wrong f_wrongAt f_size f_ranCount f_ranLast : Int32) (a_opOf a_dOf a_sOf a_nOf a_toOf a_kind a_lo a_hi a_z a_step a_origin a_reach a_wayAt a_seenKind a_seenLo a_seenHi a_seenZ a_jumped a_stayed a_memory a_isThere a_area a_value : Nat → Int32), f_count = 0 → f_wrong = 0 → wX_beginFirstWay_23 post (d + 1) (nI m) f_count f_conditions f_ways f_isVerified f_wrong f_wrongAt f_size f_ranCount f_ranLast a_opOf a_dOf a_sOf a_nOf a_toOf a_kind a_lo a_hi a_z a_step a_origin a_reach a_wayAt a_seenKind a_seenLo a_seenHi a_seenZ a_jumped a_stayed a_memory a_isThere a_area a_value := by
  intro d
  induction d with
  | zero =>
    intro m hm f_count f_conditions f_ways f_isVerified f_wrong f_wrongAt f_size f_ranCount f_ranLast a_opOf a_dOf a_sOf a_nOf a_toOf a_kind a_lo a_hi a_z a_step a_origin a_reach a_wayAt a_seenKind a_seenLo a_seenHi a_seenZ a_jumped a_stayed a_memory a_isThere a_area a_value hc hw
    exact br_t (qa_ge (b := 10) rfl (by omega) (by omega)) (fun k1 _ k2 _ w ew => H _ hc hw (by show w 0 = 0; rw [ew]; exact if_pos rfl))
  | succ d ih =>
    intro m hm f_count f_conditions f_ways f_isVerified f_wrong f_wrongAt f_size f_ranCount f_ranLast a_opOf a_dOf a_sOf a_nOf a_toOf a_kind a_lo a_hi a_z a_step a_origin a_reach a_wayAt a_seenKind a_seenLo a_seenHi a_seenZ a_jumped a_stayed a_memory a_isThere a_area a_value hc hw
    have hi : vp_in (nI m) 321 := vp_in_nI (by omega) (by decide)
    refine br_f (qa_ng (b := 10) rfl (by omega) (by decide)) (And.intro hi fun b1 _ => And.intro hi fun b2 _ => And.intro hi fun b3 _ => And.intro hi fun b4 _ => And.intro hi fun b5 _ => And.intro hi fun b6 _ => And.intro hi fun b7 _ => fun x ex => ?_)
    rw [ex, nI_1]
    exact ih (m + 1) (by omega) _ _ _ _ _ _ _ _ _ _ _ _ _ _ _ _ _ _ _ _ _ _ _ _ _ _ _ _ _ _ _ _ hc hw
theorem qa_b2 (post : SX → Prop) (f_count f_conditions f_ways f_isVerified f_wrong f_wrongAt f_size f_ranCount f_ranLast : Int32) (H : ∀ u' : SX, u'.1 = 0 → u'.2.2.2.2.1 = 0 → u'.2.2.2.2.2.2.2.2.2.2.2.2.2.2.2.2.2.2.2.2.2.1 0 = 0 → post u') (hc : f_count = 0) (hw : f_wrong = 0) : ∀ d m : Nat, m + d = 32 → ∀ (a_opOf a_dOf a_sOf a_nOf a_toOf a_kind a_lo a_hi a_z a_step a_origin a_reach a_wayAt a_seenKind a_seenLo a_seenHi a_seenZ a_jumped a_stayed a_memory a_isThere a_area a_value : Nat → Int32), wX_beginFirstWay_2 post f_count f_conditions f_ways f_isVerified f_wrong f_wrongAt f_size f_ranCount f_ranLast (d + 1) (nI m) a_opOf a_dOf a_sOf a_nOf a_toOf a_kind a_lo a_hi a_z a_step a_origin a_reach a_wayAt a_seenKind a_seenLo a_seenHi a_seenZ a_jumped a_stayed a_memory a_isThere a_area a_value := by
  intro d
  induction d with
  | zero =>
    intro m hm a_opOf a_dOf a_sOf a_nOf a_toOf a_kind a_lo a_hi a_z a_step a_origin a_reach a_wayAt a_seenKind a_seenLo a_seenHi a_seenZ a_jumped a_stayed a_memory a_isThere a_area a_value
    exact br_t (qa_ge (b := 32) rfl (by omega) (by omega)) ⟨11, qa_b23 post H 10 0 rfl f_count f_conditions f_ways f_isVerified f_wrong f_wrongAt f_size f_ranCount f_ranLast a_opOf a_dOf a_sOf a_nOf a_toOf a_kind a_lo a_hi a_z a_step a_origin a_reach a_wayAt a_seenKind a_seenLo a_seenHi a_seenZ a_jumped a_stayed a_memory a_isThere a_area a_value hc hw⟩
  | succ d ih =>
    intro m hm a_opOf a_dOf a_sOf a_nOf a_toOf a_kind a_lo a_hi a_z a_step a_origin a_reach a_wayAt a_seenKind a_seenLo a_seenHi a_seenZ a_jumped a_stayed a_memory a_isThere a_area a_value
    refine br_f (qa_ng (b := 32) rfl (by omega) (by decide)) ⟨vp_in_nI (by omega) (by decide), fun s _ x ex => ?_⟩
    rw [ex, nI_1]
    exact ih (m + 1) (by omega) _ _ _ _ _ _ _ _ _ _ _ _ _ _ _ _ _ _ _ _ _ _ _
theorem qa_first (post : SX → Prop) (u : SX) (H : ∀ u' : SX, u'.1 = 0 → u'.2.2.2.2.1 = 0 → u'.2.2.2.2.2.2.2.2.2.2.2.2.2.2.2.2.2.2.2.2.2.1 0 = 0 → post u') (hc : u.1 = 0) (hw : u.2.2.2.2.1 = 0) : wpX_beginFirstWay post u := by
  obtain ⟨f_count, f_conditions, f_ways, f_isVerified, f_wrong, f_wrongAt, f_size, f_ranCount, f_ranLast, a_opOf, a_dOf, a_sOf, a_nOf, a_toOf, a_kind, a_lo, a_hi, a_z, a_step, a_origin, a_reach, a_wayAt, a_seenKind, a_seenLo, a_seenHi, a_seenZ, a_jumped, a_stayed, a_memory, a_isThere, a_area, a_value⟩ := u
  exact Exists.intro 33 (qa_b2 post f_count f_conditions f_ways f_isVerified f_wrong f_wrongAt f_size f_ranCount f_ranLast H hc hw 32 0 rfl a_opOf a_dOf a_sOf a_nOf a_toOf a_kind a_lo a_hi a_z a_step a_origin a_reach a_wayAt a_seenKind a_seenLo a_seenHi a_seenZ a_jumped a_stayed a_memory a_isThere a_area a_value)
theorem qa_xfollow (post : SX → Prop) (f_count f_conditions f_ways f_isVerified f_wrong f_wrongAt f_size f_ranCount f_ranLast : Int32) (a_opOf a_dOf a_sOf a_nOf a_toOf a_kind a_lo a_hi a_z a_step a_origin a_reach a_wayAt a_seenKind a_seenLo a_seenHi a_seenZ a_jumped a_stayed a_memory a_isThere a_area a_value : Nat → Int32) (w : Int32) (H : ∀ u' : SX, u'.1 = 0 → u'.2.2.2.2.1 = 6 → post u') (hc : f_count = 0) (hw : f_wrong = 6 ∨ f_wrong = 0) : wpX_follow post (f_count, f_conditions, f_ways, f_isVerified, f_wrong, f_wrongAt, f_size, f_ranCount, f_ranLast, a_opOf, a_dOf, a_sOf, a_nOf, a_toOf, a_kind, a_lo, a_hi, a_z, a_step, a_origin, a_reach, a_wayAt, a_seenKind, a_seenLo, a_seenHi, a_seenZ, a_jumped, a_stayed, a_memory, a_isThere, a_area, a_value) w 0 := by
  refine br_t (qa_c0 hc) (br_f (by decide) (br_c (fun _ => H _ hc rfl) (fun hz => br_c (fun _ => H _ hc ?_) (fun _ => H _ hc rfl))))
  exact hw.resolve_right hz
theorem qa_v25 (post : Int32 → SX → Prop) (J10 : Int32 → Int32 → Int32 → Int32 → Int32 → Int32 → Int32 → Int32 → Int32 → Int32 → (Nat → Int32) → (Nat → Int32) → (Nat → Int32) → (Nat → Int32) → (Nat → Int32) → (Nat → Int32) → (Nat → Int32) → (Nat → Int32) → (Nat → Int32) → (Nat → Int32) → (Nat → Int32) → (Nat → Int32) → (Nat → Int32) → (Nat → Int32) → (Nat → Int32) → (Nat → Int32) → (Nat → Int32) → (Nat → Int32) → (Nat → Int32) → (Nat → Int32) → (Nat → Int32) → (Nat → Int32) → (Nat → Int32) → Prop) (HJ : ∀ (x : Int32) (f_count f_conditions f_ways f_isVerified f_wrong f_wrongAt f_size f_ranCount f_ranLast : Int32) (a_opOf a_dOf a_sOf a_nOf a_toOf a_kind a_lo a_hi a_z a_step a_origin a_reach a_wayAt a_seenKind a_seenLo a_seenHi a_seenZ a_jumped a_stayed a_memory a_isThere a_area a_value : Nat → Int32), x = 0 + 1 → f_wrong = 6 → J10 x f_count f_conditions f_ways f_isVerified f_wrong f_wrongAt f_size f_ranCount f_ranLast a_opOf a_dOf a_sOf a_nOf a_toOf a_kind a_lo a_hi a_z a_step a_origin a_reach a_wayAt a_seenKind a_seenLo a_seenHi a_seenZ a_jumped a_stayed a_memory a_isThere a_area a_value) : ∀ d m : Nat, m + d = 32 → ∀ (f_count f_conditions f_ways f_isVerified f_wrong f_wrongAt f_size f_ranCount f_ranLast : Int32) (a_opOf a_dOf a_sOf a_nOf a_toOf a_kind a_lo a_hi a_z a_step a_origin a_reach a_wayAt a_seenKind a_seenLo a_seenHi a_seenZ a_jumped a_stayed a_memory a_isThere a_area a_value : Nat → Int32), f_count = 0 → (f_wrong = 6 ∨ (m = 0 ∧ f_wrong = 0 ∧ a_wayAt 0 = 0)) → wX_verify_25 post J10 0 (d + 1) (nI m) f_count f_conditions f_ways f_isVerified f_wrong f_wrongAt f_size f_ranCount f_ranLast a_opOf a_dOf a_sOf a_nOf a_toOf a_kind a_lo a_hi a_z a_step a_origin a_reach a_wayAt a_seenKind a_seenLo a_seenHi a_seenZ a_jumped a_stayed a_memory a_isThere a_area a_value := by
  intro d
  induction d with
  | zero =>
    intro m hm f_count f_conditions f_ways f_isVerified f_wrong f_wrongAt f_size f_ranCount f_ranLast a_opOf a_dOf a_sOf a_nOf a_toOf a_kind a_lo a_hi a_z a_step a_origin a_reach a_wayAt a_seenKind a_seenLo a_seenHi a_seenZ a_jumped a_stayed a_memory a_isThere a_area a_value hc hw
    exact br_t (qa_ge (b := 32) rfl (by omega) (by omega)) (fun x ex => HJ x f_count f_conditions f_ways f_isVerified f_wrong f_wrongAt f_size f_ranCount f_ranLast a_opOf a_dOf a_sOf a_nOf a_toOf a_kind a_lo a_hi a_z a_step a_origin a_reach a_wayAt a_seenKind a_seenLo a_seenHi a_seenZ a_jumped a_stayed a_memory a_isThere a_area a_value ex (hw.elim id (fun z => absurd z.1 (by omega))))
  | succ d ih =>
    intro m hm f_count f_conditions f_ways f_isVerified f_wrong f_wrongAt f_size f_ranCount f_ranLast a_opOf a_dOf a_sOf a_nOf a_toOf a_kind a_lo a_hi a_z a_step a_origin a_reach a_wayAt a_seenKind a_seenLo a_seenHi a_seenZ a_jumped a_stayed a_memory a_isThere a_area a_value hc hw
    refine br_f (qa_ng (b := 32) rfl (by omega) (by decide)) ⟨vp_in_nI (by omega) (by decide), br_c (fun _ => ?_) (fun hne => ?_)⟩
    · refine qa_xfollow _ f_count f_conditions f_ways f_isVerified f_wrong f_wrongAt f_size f_ranCount f_ranLast a_opOf a_dOf a_sOf a_nOf a_toOf a_kind a_lo a_hi a_z a_step a_origin a_reach a_wayAt a_seenKind a_seenLo a_seenHi a_seenZ a_jumped a_stayed a_memory a_isThere a_area a_value (nI m) (fun u' hc' hw' => ?_) hc (hw.imp id (fun z => z.2.1))
      obtain ⟨f_count, f_conditions, f_ways, f_isVerified, f_wrong, f_wrongAt, f_size, f_ranCount, f_ranLast, a_opOf, a_dOf, a_sOf, a_nOf, a_toOf, a_kind, a_lo, a_hi, a_z, a_step, a_origin, a_reach, a_wayAt, a_seenKind, a_seenLo, a_seenHi, a_seenZ, a_jumped, a_stayed, a_memory, a_isThere, a_area, a_value⟩ := u'
      intro x ex
      rw [ex, nI_1]
      exact ih (m + 1) (by omega) _ _ _ _ _ _ _ _ _ _ _ _ _ _ _ _ _ _ _ _ _ _ _ _ _ _ _ _ _ _ _ _ hc' (Or.inl hw')
    · have h6 : f_wrong = 6 := by
        refine hw.elim id (fun z => absurd ?_ hne)
        rw [z.1, nI_clamp (by decide)]
        exact z.2.2
      intro x ex
      rw [ex, nI_1]
      exact ih (m + 1) (by omega) _ _ _ _ _ _ _ _ _ _ _ _ _ _ _ _ _ _ _ _ _ _ _ _ _ _ _ _ _ _ _ _ hc (Or.inl h6)
theorem qa_xverify (post : Int32 → SX → Prop) (u : SX) (H : ∀ u' : SX, post 6 u') (hc : u.1 = 0) : wpX_verify post u := by
  obtain ⟨f_count, f_conditions, f_ways, f_isVerified, f_wrong, f_wrongAt, f_size, f_ranCount, f_ranLast, a_opOf, a_dOf, a_sOf, a_nOf, a_toOf, a_kind, a_lo, a_hi, a_z, a_step, a_origin, a_reach, a_wayAt, a_seenKind, a_seenLo, a_seenHi, a_seenZ, a_jumped, a_stayed, a_memory, a_isThere, a_area, a_value⟩ := u
  unfold wpX_verify
  refine qa_forget _ _ (fun u' hc' hw' => ?_)
  obtain ⟨f_count, f_conditions, f_ways, f_isVerified, f_wrong, f_wrongAt, f_size, f_ranCount, f_ranLast, a_opOf, a_dOf, a_sOf, a_nOf, a_toOf, a_kind, a_lo, a_hi, a_z, a_step, a_origin, a_reach, a_wayAt, a_seenKind, a_seenLo, a_seenHi, a_seenZ, a_jumped, a_stayed, a_memory, a_isThere, a_area, a_value⟩ := u'
  refine qa_first _ _ (fun u'' hc'' hw'' hy'' => ?_) (hc'.trans hc) hw'
  obtain ⟨f_count, f_conditions, f_ways, f_isVerified, f_wrong, f_wrongAt, f_size, f_ranCount, f_ranLast, a_opOf, a_dOf, a_sOf, a_nOf, a_toOf, a_kind, a_lo, a_hi, a_z, a_step, a_origin, a_reach, a_wayAt, a_seenKind, a_seenLo, a_seenHi, a_seenZ, a_jumped, a_stayed, a_memory, a_isThere, a_area, a_value⟩ := u''
  refine ⟨2, br_f (by decide) (br_t hw'' ⟨33, qa_v25 post _ (fun x f_count f_conditions f_ways f_isVerified f_wrong f_wrongAt f_size f_ranCount f_ranLast a_opOf a_dOf a_sOf a_nOf a_toOf a_kind a_lo a_hi a_z a_step a_origin a_reach a_wayAt a_seenKind a_seenLo a_seenHi a_seenZ a_jumped a_stayed a_memory a_isThere a_area a_value ex h6 => ?_) 32 0 rfl f_count f_conditions f_ways f_isVerified f_wrong f_wrongAt f_size f_ranCount f_ranLast a_opOf a_dOf a_sOf a_nOf a_toOf a_kind a_lo a_hi a_z a_step a_origin a_reach a_wayAt a_seenKind a_seenLo a_seenHi a_seenZ a_jumped a_stayed a_memory a_isThere a_area a_value hc'' (Or.inr ⟨rfl, hw'', hy''⟩)⟩)⟩
  have h6' : f_wrong = 6 := h6
  refine br_f (by rw [ex] <;> decide) (br_f (by rw [h6'] <;> decide) ?_)
  rw [h6']
  exact H _
theorem qa_yfin (post : SY → Prop) (x1 : Int32) (f_count f_verified f_wrongAt f_wrong f_size f_done f_last : Int32) (a_ops a_ds a_ss a_ns a_tos a_kind a_lo a_hi a_zeros a_step a_origin a_reach a_kinds a_least a_greatest a_fewest a_jumps a_falls a_bytes a_cells a_there a_sort a_value a_which : Nat → Int32) (H : ∀ v' : SY, v'.1 = 0 → v'.2.2.2.1 = 6 → post v') (hc : f_count = 0) (hw : f_wrong = 6) : wY_follow_36 post x1 1 (-1) f_count f_verified f_wrongAt f_wrong f_size f_done f_last a_ops a_ds a_ss a_ns a_tos a_kind a_lo a_hi a_zeros a_step a_origin a_reach a_kinds a_least a_greatest a_fewest a_jumps a_falls a_bytes a_cells a_there a_sort a_value a_which := br_t (by decide) (H _ hc hw)
theorem qa_y36 (post : SY → Prop) (x1 : Int32) (f_count f_verified f_wrongAt f_wrong f_size f_done f_last : Int32) (a_ops a_ds a_ss a_ns a_tos a_kind a_lo a_hi a_zeros a_step a_origin a_reach a_kinds a_least a_greatest a_fewest a_jumps a_falls a_bytes a_cells a_there a_sort a_value a_which : Nat → Int32) (H : ∀ v' : SY, v'.1 = 0 → v'.2.2.2.1 = 6 → post v') (hc : f_count = 0) (hw : f_wrong = 6 ∨ f_wrong = 0) : wY_follow_36 post x1 2 0 f_count f_verified f_wrongAt f_wrong f_size f_done f_last a_ops a_ds a_ss a_ns a_tos a_kind a_lo a_hi a_zeros a_step a_origin a_reach a_kinds a_least a_greatest a_fewest a_jumps a_falls a_bytes a_cells a_there a_sort a_value a_which := by
  have h0 : f_count ≤ 0 := qa_c0 hc
  have n6 : ¬ f_wrong ≤ 0 → f_wrong = 6 := fun hz => hw.resolve_right (fun e => hz (qa_c0 e))
  refine br_f (by decide) (br_t h0 (br_t h0 (br_f (by decide) (br_c (fun _ => ?_) (fun hz => br_c (fun _ => ?_) (fun _ => br_c (fun _ => br_f (by rw [n6 hz] <;> decide) ?_) (fun _ => ?_)))))))
  · exact qa_yfin post x1 _ _ _ _ _ _ _ _ _ _ _ _ _ _ _ _ _ _ _ _ _ _ _ _ _ _ _ _ _ _ _ H hc rfl
  · exact qa_yfin post x1 _ _ _ _ _ _ _ _ _ _ _ _ _ _ _ _ _ _ _ _ _ _ _ _ _ _ _ _ _ _ _ H hc (n6 hz)
  · exact qa_yfin post x1 _ _ _ _ _ _ _ _ _ _ _ _ _ _ _ _ _ _ _ _ _ _ _ _ _ _ _ _ _ _ _ H hc (n6 hz)
  · exact qa_yfin post x1 _ _ _ _ _ _ _ _ _ _ _ _ _ _ _ _ _ _ _ _ _ _ _ _ _ _ _ _ _ _ _ H hc rfl
theorem qa_y2 (post : SY → Prop) (x1 : Int32) (f_count f_verified f_wrongAt f_wrong f_size f_done f_last : Int32) (H : ∀ v' : SY, v'.1 = 0 → v'.2.2.2.1 = 6 → post v') (hc : f_count = 0) (hw : f_wrong = 6 ∨ f_wrong = 0) : ∀ d m : Nat, m + d = 10 → ∀ (a_ops a_ds a_ss a_ns a_tos a_kind a_lo a_hi a_zeros a_step a_origin a_reach a_kinds a_least a_greatest a_fewest a_jumps a_falls a_bytes a_cells a_there a_sort a_value a_which : Nat → Int32), wY_follow_2 post x1 f_count f_verified f_wrongAt f_wrong f_size f_done f_last (d + 1) (nI m) a_ops a_ds a_ss a_ns a_tos a_kind a_lo a_hi a_zeros a_step a_origin a_reach a_kinds a_least a_greatest a_fewest a_jumps a_falls a_bytes a_cells a_there a_sort a_value a_which := by
  intro d
  induction d with
  | zero =>
    intro m hm a_ops a_ds a_ss a_ns a_tos a_kind a_lo a_hi a_zeros a_step a_origin a_reach a_kinds a_least a_greatest a_fewest a_jumps a_falls a_bytes a_cells a_there a_sort a_value a_which
    have hi : vp_in 1 12 := vp_in_iff.mpr (by decide)
    exact br_t (qa_ge (b := 10) rfl (by omega) (by omega)) (And.intro hi fun b1 _ => And.intro hi fun b2 _ => And.intro hi fun b3 _ => And.intro hi fun b4 _ => And.intro hi fun b5 _ => And.intro hi fun b6 _ => And.intro hi fun b7 _ => fun x _ => ⟨2, qa_y36 post x1 _ _ _ _ _ _ _ _ _ _ _ _ _ _ _ _ _ _ _ _ _ _ _ _ _ _ _ _ _ _ _ H hc hw⟩)
  | succ d ih =>
    intro m hm a_ops a_ds a_ss a_ns a_tos a_kind a_lo a_hi a_zeros a_step a_origin a_reach a_kinds a_least a_greatest a_fewest a_jumps a_falls a_bytes a_cells a_there a_sort a_value a_which
    refine br_f (qa_ng (b := 10) rfl (by omega) (by decide)) ⟨vp_in_nI (by omega) (by decide), fun s _ x ex => ?_⟩
    rw [ex, nI_1]
    exact ih (m + 1) (by omega) _ _ _ _ _ _ _ _ _ _ _ _ _ _ _ _ _ _ _ _ _ _ _ _
theorem qa_yfollow (post : SY → Prop) (v : SY) (x1 : Int32) (H : ∀ v' : SY, v'.1 = 0 → v'.2.2.2.1 = 6 → post v') (hc : v.1 = 0) (hw : v.2.2.2.1 = 6 ∨ v.2.2.2.1 = 0) : wpY_follow post v x1 := by
  obtain ⟨f_count, f_verified, f_wrongAt, f_wrong, f_size, f_done, f_last, a_ops, a_ds, a_ss, a_ns, a_tos, a_kind, a_lo, a_hi, a_zeros, a_step, a_origin, a_reach, a_kinds, a_least, a_greatest, a_fewest, a_jumps, a_falls, a_bytes, a_cells, a_there, a_sort, a_value, a_which⟩ := v
  exact Exists.intro 11 (qa_y2 post x1 f_count f_verified f_wrongAt f_wrong f_size f_done f_last H hc hw 10 0 rfl a_ops a_ds a_ss a_ns a_tos a_kind a_lo a_hi a_zeros a_step a_origin a_reach a_kinds a_least a_greatest a_fewest a_jumps a_falls a_bytes a_cells a_there a_sort a_value a_which)
theorem qa_y67 (post : Int32 → SY → Prop) (H : ∀ v' : SY, post 6 v') : ∀ d m : Nat, m + d = 32 → ∀ (f_count f_verified f_wrongAt f_wrong f_size f_done f_last : Int32) (a_ops a_ds a_ss a_ns a_tos a_kind a_lo a_hi a_zeros a_step a_origin a_reach a_kinds a_least a_greatest a_fewest a_jumps a_falls a_bytes a_cells a_there a_sort a_value a_which : Nat → Int32), f_count = 0 → (f_wrong = 6 ∨ (m = 0 ∧ f_wrong = 0)) → wY_verify_67 post (d + 1) (nI m) f_count f_verified f_wrongAt f_wrong f_size f_done f_last a_ops a_ds a_ss a_ns a_tos a_kind a_lo a_hi a_zeros a_step a_origin a_reach a_kinds a_least a_greatest a_fewest a_jumps a_falls a_bytes a_cells a_there a_sort a_value a_which := by
  intro d
  induction d with
  | zero =>
    intro m hm f_count f_verified f_wrongAt f_wrong f_size f_done f_last a_ops a_ds a_ss a_ns a_tos a_kind a_lo a_hi a_zeros a_step a_origin a_reach a_kinds a_least a_greatest a_fewest a_jumps a_falls a_bytes a_cells a_there a_sort a_value a_which hc hw
    have h6 : f_wrong = 6 := hw.elim id (fun z => absurd z.1 (by omega))
    refine br_t (qa_ge (b := 32) rfl (by omega) (by omega)) ?_
    rw [h6]
    exact H _
  | succ d ih =>
    intro m hm f_count f_verified f_wrongAt f_wrong f_size f_done f_last a_ops a_ds a_ss a_ns a_tos a_kind a_lo a_hi a_zeros a_step a_origin a_reach a_kinds a_least a_greatest a_fewest a_jumps a_falls a_bytes a_cells a_there a_sort a_value a_which hc hw
    refine br_f (qa_ng (b := 32) rfl (by omega) (by decide)) (qa_yfollow _ _ _ (fun v' hc' hw' => ?_) hc (hw.imp id (fun z => z.2)))
    obtain ⟨f_count, f_verified, f_wrongAt, f_wrong, f_size, f_done, f_last, a_ops, a_ds, a_ss, a_ns, a_tos, a_kind, a_lo, a_hi, a_zeros, a_step, a_origin, a_reach, a_kinds, a_least, a_greatest, a_fewest, a_jumps, a_falls, a_bytes, a_cells, a_there, a_sort, a_value, a_which⟩ := v'
    intro x ex
    rw [ex, nI_1]
    exact ih (m + 1) (by omega) _ _ _ _ _ _ _ _ _ _ _ _ _ _ _ _ _ _ _ _ _ _ _ _ _ _ _ _ _ _ _ hc' (Or.inl hw')
theorem qa_y39 (post : Int32 → SY → Prop) (f_count f_verified f_wrongAt f_wrong f_size f_done f_last : Int32) (H : ∀ v' : SY, post 6 v') (hc : f_count = 0) (hw : f_wrong = 0) : ∀ d m : Nat, m + d = 32 → ∀ (a_ops a_ds a_ss a_ns a_tos a_kind a_lo a_hi a_zeros a_step a_origin a_reach a_kinds a_least a_greatest a_fewest a_jumps a_falls a_bytes a_cells a_there a_sort a_value a_which : Nat → Int32), wY_verify_39 post f_count f_verified f_wrongAt f_wrong f_size f_done f_last (d + 1) (nI m) a_ops a_ds a_ss a_ns a_tos a_kind a_lo a_hi a_zeros a_step a_origin a_reach a_kinds a_least a_greatest a_fewest a_jumps a_falls a_bytes a_cells a_there a_sort a_value a_which := by
  intro d
  induction d with
  | zero =>
    intro m hm a_ops a_ds a_ss a_ns a_tos a_kind a_lo a_hi a_zeros a_step a_origin a_reach a_kinds a_least a_greatest a_fewest a_jumps a_falls a_bytes a_cells a_there a_sort a_value a_which
    exact br_t (qa_ge (b := 32) rfl (by omega) (by omega)) ⟨33, qa_y67 post H 32 0 rfl f_count f_verified f_wrongAt f_wrong f_size f_done f_last a_ops a_ds a_ss a_ns a_tos a_kind a_lo a_hi a_zeros a_step a_origin a_reach a_kinds a_least a_greatest a_fewest a_jumps a_falls a_bytes a_cells a_there a_sort a_value a_which hc (Or.inr ⟨rfl, hw⟩)⟩
  | succ d ih =>
    intro m hm a_ops a_ds a_ss a_ns a_tos a_kind a_lo a_hi a_zeros a_step a_origin a_reach a_kinds a_least a_greatest a_fewest a_jumps a_falls a_bytes a_cells a_there a_sort a_value a_which
    refine br_f (qa_ng (b := 32) rfl (by omega) (by decide)) ⟨vp_in_nI (by omega) (by decide), fun j _ => ⟨vp_in_nI (by omega) (by decide), fun s _ x ex => ?_⟩⟩
    rw [ex, nI_1]
    exact ih (m + 1) (by omega) _ _ _ _ _ _ _ _ _ _ _ _ _ _ _ _ _ _ _ _ _ _ _ _
theorem qa_y17 (post : Int32 → SY → Prop) (f_count f_verified f_wrongAt f_wrong f_size f_done f_last : Int32) (H : ∀ v' : SY, post 6 v') (hc : f_count = 0) (hw : f_wrong = 0) : ∀ d m : Nat, m + d = 320 → ∀ (a_ops a_ds a_ss a_ns a_tos a_kind a_lo a_hi a_zeros a_step a_origin a_reach a_kinds a_least a_greatest a_fewest a_jumps a_falls a_bytes a_cells a_there a_sort a_value a_which : Nat → Int32), wY_verify_17 post f_count f_verified f_wrongAt f_wrong f_size f_done f_last (d + 1) (nI m) a_ops a_ds a_ss a_ns a_tos a_kind a_lo a_hi a_zeros a_step a_origin a_reach a_kinds a_least a_greatest a_fewest a_jumps a_falls a_bytes a_cells a_there a_sort a_value a_which := by
  intro d
  induction d with
  | zero =>
    intro m hm a_ops a_ds a_ss a_ns a_tos a_kind a_lo a_hi a_zeros a_step a_origin a_reach a_kinds a_least a_greatest a_fewest a_jumps a_falls a_bytes a_cells a_there a_sort a_value a_which
    exact br_t (qa_ge (b := 320) rfl (by omega) (by omega)) ⟨33, qa_y39 post f_count f_verified f_wrongAt f_wrong f_size f_done f_last H hc hw 32 0 rfl a_ops a_ds a_ss a_ns a_tos a_kind a_lo a_hi a_zeros a_step a_origin a_reach a_kinds a_least a_greatest a_fewest a_jumps a_falls a_bytes a_cells a_there a_sort a_value a_which⟩
  | succ d ih =>
    intro m hm a_ops a_ds a_ss a_ns a_tos a_kind a_lo a_hi a_zeros a_step a_origin a_reach a_kinds a_least a_greatest a_fewest a_jumps a_falls a_bytes a_cells a_there a_sort a_value a_which
    refine br_f (qa_ng (b := 320) rfl (by omega) (by decide)) ⟨vp_in_nI (by omega) (by decide), fun s _ x ex => ?_⟩
    rw [ex, nI_1]
    exact ih (m + 1) (by omega) _ _ _ _ _ _ _ _ _ _ _ _ _ _ _ _ _ _ _ _ _ _ _ _
theorem qa_yverify (post : Int32 → SY → Prop) (v : SY) (H : ∀ v' : SY, post 6 v') (hc : v.1 = 0) : wpY_verify post v := by
  obtain ⟨f_count, f_verified, f_wrongAt, f_wrong, f_size, f_done, f_last, a_ops, a_ds, a_ss, a_ns, a_tos, a_kind, a_lo, a_hi, a_zeros, a_step, a_origin, a_reach, a_kinds, a_least, a_greatest, a_fewest, a_jumps, a_falls, a_bytes, a_cells, a_there, a_sort, a_value, a_which⟩ := v
  exact Exists.intro 321 (qa_y17 post f_count 1 (-1) 0 f_size f_done f_last H hc rfl 320 0 rfl a_ops a_ds a_ss a_ns a_tos a_kind a_lo a_hi a_zeros a_step a_origin a_reach a_kinds a_least a_greatest a_fewest a_jumps a_falls a_bytes a_cells a_there a_sort a_value a_which)
theorem i_vc_verify {k : Nat} {u : SX} {v : SY} (I : i_Rel k u v) (hk : k + 6 ≤ 6) : wpX_verify (fun r u' => wpY_verify (fun r' v' => r' = r ∧ i_Rel (k + 6) u' v') v) u := by
  obtain ⟨hu, hv⟩ := qa_k I hk
  subst hu hv
  exact qa_xverify _ _ (fun _ => qa_yverify _ _ (fun _ => ⟨rfl, qa_tail⟩) rfl) rfl
