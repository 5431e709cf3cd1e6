section
/-- one call alone: at the first turn both objects are as they were made; behind it nothing is asked -/
def i_Rel (k : Nat) (u : SX) (v : SY) : Prop := k = 0 → u = (0, 0, 0, 0, 0, (-1), 0, (-1), (-1), (fun _ => 0), (fun _ => 0), (fun _ => 0), (fun _ => 0), (fun _ => 0), (fun _ => 0), (fun _ => 0), (fun _ => 0), (fun _ => 0), (fun _ => 0), (fun _ => 0), (fun _ => 0), (fun _ => 0), (fun _ => 0), (fun _ => 0), (fun _ => 0), (fun _ => 0), (fun _ => 0), (fun _ => 0), (fun _ => 0), (fun _ => 0), (fun _ => 0), (fun _ => 0)) ∧ v = (0, 0, 0, 0, 0, 0, (-1), (fun _ => 0), (fun _ => 0), (fun _ => 0), (fun _ => 0), (fun _ => 0), (fun _ => 0), (fun _ => 0), (fun _ => 0), (fun _ => 0), (fun _ => 0), (fun _ => 0), (fun _ => 0), (fun _ => 0), (fun _ => 0), (fun _ => 0), (fun _ => 0), (fun _ => 0), (fun _ => 0), (fun _ => 0), (fun _ => 0), (fun _ => 0), (fun _ => 0), (fun _ => 0), (fun _ => 0))
theorem i_up {k : Nat} {u : SX} {v : SY} (h : i_Rel k u v) : i_Rel (k + 6) u v := fun z => absurd z (by omega)
theorem i_vc0 : wpX_init (fun u => wpY_init (fun v => i_Rel 0 u v)) := by
  unfold wpX_init wpY_init
  exact fun _ => ⟨rfl, rfl⟩
theorem qa_tail {k : Nat} {u : SX} {v : SY} : i_Rel (k + 6) u v := fun z => absurd z (by omega)
theorem qa_k {k : Nat} {u : SX} {v : SY} (I : i_Rel k u v) (hk : k + 6 ≤ 6) : u = (0, 0, 0, 0, 0, (-1), 0, (-1), (-1), (fun _ => 0), (fun _ => 0), (fun _ => 0), (fun _ => 0), (fun _ => 0), (fun _ => 0), (fun _ => 0), (fun _ => 0), (fun _ => 0), (fun _ => 0), (fun _ => 0), (fun _ => 0), (fun _ => 0), (fun _ => 0), (fun _ => 0), (fun _ => 0), (fun _ => 0), (fun _ => 0), (fun _ => 0), (fun _ => 0), (fun _ => 0), (fun _ => 0), (fun _ => 0)) ∧ v = (0, 0, 0, 0, 0, 0, (-1), (fun _ => 0), (fun _ => 0), (fun _ => 0), (fun _ => 0), (fun _ => 0), (fun _ => 0), (fun _ => 0), (fun _ => 0), (fun _ => 0), (fun _ => 0), (fun _ => 0), (fun _ => 0), (fun _ => 0), (fun _ => 0), (fun _ => 0), (fun _ => 0), (fun _ => 0), (fun _ => 0), (fun _ => 0), (fun _ => 0), (fun _ => 0), (fun _ => 0), (fun _ => 0), (fun _ => 0)) := I (by omega)
theorem qa_c0 {x : Int32} (h : x = 0) : x ≤ 0 := by
  subst h
  decide
theorem qa_ge {b m : Nat} {x : Int32} (hx : x = nI b) (h : b ≤ m) (hm : m < 2 ^ 31) : x ≤ nI m := hx ▸ nI_le h hm
theorem qa_ng {b m : Nat} {x : Int32} (hx : x = nI b) (h : m < b) (hb : b < 2 ^ 31) : ¬ x ≤ nI m := hx ▸ nI_ge h hb
theorem i_vc_wipe {k : Nat} {u : SX} {v : SY} (I : i_Rel k u v) (hk : k + 6 ≤ 6) : wpX_wipe (fun r u' => wpY_wipe (fun r' v' => r' = r ∧ i_Rel (k + 6) u' v') v) u := by
  obtain ⟨hu, hv⟩ := qa_k I hk
  subst hu hv
  exact And.intro rfl qa_tail
theorem i_vc_cut {k : Nat} {u : SX} {v : SY} (I : i_Rel k u v) (hk : k + 6 ≤ 6) : wpX_cut (fun r u' => wpY_cut (fun r' v' => r' = r ∧ i_Rel (k + 6) u' v') v) u := by
  obtain ⟨hu, hv⟩ := qa_k I hk
  subst hu hv
  exact And.intro rfl qa_tail
theorem i_vc_place {k : Nat} {u : SX} {v : SY} (I : i_Rel k u v) (hk : k + 6 ≤ 6) : wpX_place (fun r => wpY_place (fun r' => r' = r ∧ i_Rel (k + 6) u v) v) u := by
  obtain ⟨hu, hv⟩ := qa_k I hk
  subst hu hv
  exact br_t rfl (br_t rfl ⟨rfl, qa_tail⟩)
theorem i_vc_bound {k : Nat} {u : SX} {v : SY} (I : i_Rel k u v) (hk : k + 6 ≤ 6) (v1 : Int32) (v2 : Int32) (v3 : Int32) : wpX_bound (fun r => wpY_bound (fun r' => r' = r ∧ i_Rel (k + 6) u v) v v1 v2 v3) u v1 v2 v3 := by
  obtain ⟨hu, hv⟩ := qa_k I hk
  subst hu hv
  exact br_t rfl (br_t rfl ⟨rfl, qa_tail⟩)
theorem i_vc_decided {k : Nat} {u : SX} {v : SY} (I : i_Rel k u v) (hk : k + 6 ≤ 6) (v1 : Int32) : wpX_decided (fun r => wpY_decided (fun r' => r' = r ∧ i_Rel (k + 6) u v) v v1) u v1 := by
  obtain ⟨hu, hv⟩ := qa_k I hk
  subst hu hv
  exact br_t rfl (br_t rfl ⟨rfl, qa_tail⟩)
theorem i_vc_run {k : Nat} {u : SX} {v : SY} (I : i_Rel k u v) (hk : k + 6 ≤ 6) : wpX_run (fun r u' => wpY_run (fun r' v' => r' = r ∧ i_Rel (k + 6) u' v') v) u := by
  obtain ⟨hu, hv⟩ := qa_k I hk
  subst hu hv
  exact br_t rfl (br_t rfl ⟨rfl, qa_tail⟩)
theorem i_vc_ran {k : Nat} {u : SX} {v : SY} (I : i_Rel k u v) (hk : k + 6 ≤ 6) (v1 : Int32) : wpX_ran (fun r => wpY_ran (fun r' => r' = r ∧ i_Rel (k + 6) u v) v v1) u v1 := by
  obtain ⟨hu, hv⟩ := qa_k I hk
  subst hu hv
  exact br_c (fun _ => br_t (by decide) ⟨rfl, qa_tail⟩) (fun _ => br_c (fun _ => br_t (by decide) ⟨rfl, qa_tail⟩) (fun _ => br_t (by decide) ⟨rfl, qa_tail⟩))
theorem i_vc_put {k : Nat} {u : SX} {v : SY} (I : i_Rel k u v) (hk : k + 6 ≤ 6) (v1 : Int32) : wpX_put (fun r u' => wpY_put (fun r' v' => r' = r ∧ i_Rel (k + 6) u' v') v v1) u v1 := by
  obtain ⟨hu, hv⟩ := qa_k I hk
  subst hu hv
  exact br_f (by decide) ⟨vp_in_iff.mpr (by decide), fun a ea f ef => br_f (by decide) ⟨vp_in_iff.mpr (by decide), fun b eb g eg => ⟨eg.trans ef.symm, qa_tail⟩⟩⟩
theorem qa_m1 {x : Int32} (h : ¬ x < 0) : (0 : Int32) - 1 < x := by
  rw [Int32.lt_iff_toInt_lt] at h ⊢
  have e : ((0 : Int32) - 1).toInt = -1 := by decide
  have z : (0 : Int32).toInt = 0 := by decide
  omega
theorem i_vc_packet {k : Nat} {u : SX} {v : SY} (I : i_Rel k u v) (hk : k + 6 ≤ 6) (v1 : Int32) : wpX_packet (fun r => wpY_packet (fun r' => r' = r ∧ i_Rel (k + 6) u v) v v1) u v1 := by
  obtain ⟨hu, hv⟩ := qa_k I hk
  subst hu hv
  exact br_c (fun h => br_t h (br_t rfl ⟨rfl, qa_tail⟩)) (fun h => br_f h (br_f h (br_t (qa_m1 h) (br_t rfl ⟨rfl, qa_tail⟩))))
theorem qa_78 {x : Int32} (h : 8 ≤ x) : (7 : Int32) < x := by
  rw [Int32.le_iff_toInt_le] at h
  rw [Int32.lt_iff_toInt_lt]
  have e : (8 : Int32).toInt = 8 := by decide
  have z : (7 : Int32).toInt = 7 := by decide
  omega
theorem qa_87 {x : Int32} (h : ¬ 8 ≤ x) : ¬ (7 : Int32) < x := by
  rw [Int32.le_iff_toInt_le] at h
  rw [Int32.lt_iff_toInt_lt]
  have e : (8 : Int32).toInt = 8 := by decide
  have z : (7 : Int32).toInt = 7 := by decide
  omega
theorem qa_in8 {x : Int32} (h0 : ¬ x < 0) (h : ¬ 8 ≤ x) : vp_in x 8 := by
  rw [vp_in_iff]
  rw [Int32.lt_iff_toInt_lt] at h0
  rw [Int32.le_iff_toInt_le] at h
  have e : (8 : Int32).toInt = 8 := by decide
  have z : (0 : Int32).toInt = 0 := by decide
  omega
theorem qa_nb : narrow .boolean (.int 0) = .int 0 := rfl
theorem i_vc_drop {k : Nat} {u : SX} {v : SY} (I : i_Rel k u v) (hk : k + 6 ≤ 6) (v1 : Int32) : wpX_drop (fun r u' => wpY_drop (fun r' v' => r' = r ∧ i_Rel (k + 6) u' v') v v1) u v1 := by
  obtain ⟨hu, hv⟩ := qa_k I hk
  subst hu hv
  by_cases h0 : v1 < 0
  · exact br_t h0 (br_t rfl (br_t h0 (br_t rfl ⟨rfl, qa_tail⟩)))
  · by_cases h8 : 8 ≤ v1
    · exact br_f h0 (br_t h8 (br_t rfl (br_f h0 (br_t (qa_78 h8) (br_t rfl ⟨rfl, qa_tail⟩)))))
    · exact br_f h0 (br_f h8 (br_f (by decide) (br_f (by decide) (br_f (by decide) ⟨qa_in8 h0 h8, fun x ex => ⟨qa_in8 h0 h8, fun a ea => ⟨by rw [ex]; exact qa_nb, br_f h0 (br_f (qa_87 h8) (br_f (by decide) ⟨qa_in8 h0 h8, br_t rfl ⟨ex.symm, qa_tail⟩⟩))⟩⟩⟩))))
theorem i_vc_entry {k : Nat} {u : SX} {v : SY} (I : i_Rel k u v) (hk : k + 6 ≤ 6) (v1 : Int32) (v2 : Int32) : wpX_entry (fun r => wpY_entry (fun r' => r' = r ∧ i_Rel (k + 6) u v) v v1 v2) u v1 v2 := by
  obtain ⟨hu, hv⟩ := qa_k I hk
  subst hu hv
  by_cases h0 : v1 < 0
  · exact br_t h0 (br_t rfl (br_t h0 (br_t rfl ⟨rfl, qa_tail⟩)))
  by_cases h8 : 8 ≤ v1
  · exact br_f h0 (br_t h8 (br_t rfl (br_f h0 (br_t (qa_78 h8) (br_t rfl ⟨rfl, qa_tail⟩)))))
  by_cases k0 : v2 < 0
  · exact br_f h0 (br_f h8 (br_t k0 (br_t rfl (br_f h0 (br_f (qa_87 h8) (br_f (by decide) (br_t k0 (br_t rfl ⟨rfl, qa_tail⟩))))))))
  by_cases k8 : 8 ≤ v2
  · exact br_f h0 (br_f h8 (br_f k0 (br_t k8 (br_t rfl (br_f h0 (br_f (qa_87 h8) (br_f (by decide) (br_f k0 (br_t (qa_78 k8) (br_t rfl ⟨rfl, qa_tail⟩))))))))))
  · exact br_f h0 (br_f h8 (br_f k0 (br_f k8 (br_f (by decide) ⟨qa_in8 h0 h8, br_t rfl (br_f h0 (br_f (qa_87 h8) (br_f (by decide) (br_f k0 (br_f (qa_87 k8) (br_f (by decide) ⟨qa_in8 h0 h8, br_t rfl ⟨rfl, qa_tail⟩⟩))))))⟩))))
end
section
theorem qa_f24 (post : SX → Prop) (f_count f_conditions f_ways f_isVerified f_wrong f_wrongAt f_size f_ranCount f_ranLast : Int32) (H : ∀ u' : SX, u'.1 = f_count → u'.2.2.2.2.1 = 0 → post u') : ∀ d m : Nat, m + d = 32 → ∀ (a_opOf a_dOf a_sOf a_nOf a_toOf a_kind a_lo a_hi a_z a_step a_origin a_reach a_wayAt a_seenKind a_seenLo a_seenHi a_seenZ a_jumped a_stayed a_memory a_isThere a_area a_value : Nat → Int32), wX_forgetWhatWasFound_24 post f_count f_conditions f_ways f_isVerified f_wrong f_wrongAt f_size f_ranCount f_ranLast (d + 1) (nI m) a_opOf a_dOf a_sOf a_nOf a_toOf a_kind a_lo a_hi a_z a_step a_origin a_reach a_wayAt a_seenKind a_seenLo a_seenHi a_seenZ a_jumped a_stayed a_memory a_isThere a_area a_value := by
  intro d
  induction d with
  | zero =>
    intro m hm a_opOf a_dOf a_sOf a_nOf a_toOf a_kind a_lo a_hi a_z a_step a_origin a_reach a_wayAt a_seenKind a_seenLo a_seenHi a_seenZ a_jumped a_stayed a_memory a_isThere a_area a_value
    exact br_t (qa_ge (b := 32) rfl (by omega) (by omega)) (H _ rfl rfl)
  | succ d ih =>
    intro m hm a_opOf a_dOf a_sOf a_nOf a_toOf a_kind a_lo a_hi a_z a_step a_origin a_reach a_wayAt a_seenKind a_seenLo a_seenHi a_seenZ a_jumped a_stayed a_memory a_isThere a_area a_value
    refine br_f (qa_ng (b := 32) rfl (by omega) (by decide)) ⟨vp_in_nI (by omega) (by decide), fun j _ => ⟨vp_in_nI (by omega) (by decide), fun s _ x ex => ?_⟩⟩
    rw [ex, nI_1]
    exact ih (m + 1) (by omega) _ _ _ _ _ _ _ _ _ _ _ _ _ _ _ _ _ _ _ _ _ _ _
theorem qa_f2 (post : SX → Prop) (f_count f_conditions f_ways f_isVerified f_wrong f_wrongAt f_size f_ranCount f_ranLast : Int32) (H : ∀ u' : SX, u'.1 = f_count → u'.2.2.2.2.1 = 0 → post u') : ∀ d m : Nat, m + d = 320 → ∀ (a_opOf a_dOf a_sOf a_nOf a_toOf a_kind a_lo a_hi a_z a_step a_origin a_reach a_wayAt a_seenKind a_seenLo a_seenHi a_seenZ a_jumped a_stayed a_memory a_isThere a_area a_value : Nat → Int32), wX_forgetWhatWasFound_2 post f_count f_conditions f_ways f_isVerified f_wrong f_wrongAt f_size f_ranCount f_ranLast (d + 1) (nI m) a_opOf a_dOf a_sOf a_nOf a_toOf a_kind a_lo a_hi a_z a_step a_origin a_reach a_wayAt a_seenKind a_seenLo a_seenHi a_seenZ a_jumped a_stayed a_memory a_isThere a_area a_value := by
  intro d
  induction d with
  | zero =>
    intro m hm a_opOf a_dOf a_sOf a_nOf a_toOf a_kind a_lo a_hi a_z a_step a_origin a_reach a_wayAt a_seenKind a_seenLo a_seenHi a_seenZ a_jumped a_stayed a_memory a_isThere a_area a_value
    exact br_t (qa_ge (b := 320) rfl (by omega) (by omega)) ⟨33, qa_f24 post f_count f_conditions f_ways f_isVerified f_wrong f_wrongAt f_size f_ranCount f_ranLast H 32 0 rfl a_opOf a_dOf a_sOf a_nOf a_toOf a_kind a_lo a_hi a_z a_step a_origin a_reach a_wayAt a_seenKind a_seenLo a_seenHi a_seenZ a_jumped a_stayed a_memory a_isThere a_area a_value⟩
  | succ d ih =>
    intro m hm a_opOf a_dOf a_sOf a_nOf a_toOf a_kind a_lo a_hi a_z a_step a_origin a_reach a_wayAt a_seenKind a_seenLo a_seenHi a_seenZ a_jumped a_stayed a_memory a_isThere a_area a_value
    refine br_f (qa_ng (b := 320) rfl (by omega) (by decide)) ⟨vp_in_nI (by omega) (by decide), fun s _ x ex => ?_⟩
    rw [ex, nI_1]
    exact ih (m + 1) (by omega) _ _ _ _ _ _ _ _ _ _ _ _ _ _ _ _ _ _ _ _ _ _ _
theorem qa_forget (post : SX → Prop) (u : SX) (H : ∀ u' : SX, u'.1 = u.1 → u'.2.2.2.2.1 = 0 → post u') : wpX_forgetWhatWasFound post u := by
  obtain ⟨f_count, f_conditions, f_ways, f_isVerified, f_wrong, f_wrongAt, f_size, f_ranCount, f_ranLast, a_opOf, a_dOf, a_sOf, a_nOf, a_toOf, a_kind, a_lo, a_hi, a_z, a_step, a_origin, a_reach, a_wayAt, a_seenKind, a_seenLo, a_seenHi, a_seenZ, a_jumped, a_stayed, a_memory, a_isThere, a_area, a_value⟩ := u
  exact Exists.intro 321 (qa_f2 post f_count f_conditions f_ways f_isVerified f_wrong f_wrongAt f_size f_ranCount f_ranLast H 320 0 rfl a_opOf a_dOf a_sOf a_nOf a_toOf a_kind a_lo a_hi a_z a_step a_origin a_reach a_wayAt a_seenKind a_seenLo a_seenHi a_seenZ a_jumped a_stayed a_memory a_isThere a_area a_value)
theorem qa_b23 (post : SX → Prop) (H : ∀ u' : SX, u'.1 = 0 → u'.2.2.2.2.1 = 0 → u'.2.2.2.2.2.2.2.2.2.2.2.2.2.2.2.2.2.2.2.2.2.1 0 = 0 → post u') : ∀ d m : Nat, m + d = 10 → ∀ (f_count f_conditions f_ways f_isVerified f_wrong f_wrongAt f_size f_ranCount f_ranLast : Int32) (a_opOf a_dOf a_sOf a_nOf a_toOf a_kind a_lo a_hi a_z a_step a_origin a_reach a_wayAt a_seenKind a_seenLo a_seenHi a_seenZ a_jumped a_stayed a_memory a_isThere a_area a_value : Nat → Int32), f_count = 0 → f_wrong = 0 → wX_beginFirstWay_23 post (d + 1) (nI m) f_count f_conditions f_ways f_isVerified f_wrong f_wrongAt f_size f_ranCount f_ranLast a_opOf a_dOf a_sOf a_nOf a_toOf a_kind a_lo a_hi a_z a_step a_origin a_reach a_wayAt a_seenKind a_seenLo a_seenHi a_seenZ a_jumped a_stayed a_memory a_isThere a_area a_value := by
  intro d
  induction d with
  | zero =>
    intro m hm f_count f_conditions f_ways f_isVerified f_wrong f_wrongAt f_size f_ranCount f_ranLast a_opOf a_dOf a_sOf a_nOf a_toOf a_kind a_lo a_hi a_z a_step a_origin a_reach a_wayAt a_seenKind a_seenLo a_seenHi a_seenZ a_jumped a_stayed a_memory a_isThere a_area a_value hc hw
    exact br_t (qa_ge (b := 10) rfl (by omega) (by omega)) (fun k1 _ k2 _ w ew => H _ hc hw (by show w 0 = 0; rw [ew]; exact if_pos rfl))
  | succ d ih =>
    intro m hm f_count f_conditions f_ways f_isVerified f_wrong f_wrongAt f_size f_ranCount f_ranLast a_opOf a_dOf a_sOf a_nOf a_toOf a_kind a_lo a_hi a_z a_step a_origin a_reach a_wayAt a_seenKind a_seenLo a_seenHi a_seenZ a_jumped a_stayed a_memory a_isThere a_area a_value hc hw
    have hi : vp_in (nI m) 321 := vp_in_nI (by omega) (by decide)
    refine br_f (qa_ng (b := 10) rfl (by omega) (by decide)) (And.intro hi fun b1 _ => And.intro hi fun b2 _ => And.intro hi fun b3 _ => And.intro hi fun b4 _ => And.intro hi fun b5 _ => And.intro hi fun b6 _ => And.intro hi fun b7 _ => fun x ex => ?_)
    rw [ex, nI_1]
    exact ih (m + 1) (by omega) _ _ _ _ _ _ _ _ _ _ _ _ _ _ _ _ _ _ _ _ _ _ _ _ _ _ _ _ _ _ _ _ hc hw
theorem qa_b2 (post : SX → Prop) (f_count f_conditions f_ways f_isVerified f_wrong f_wrongAt f_size f_ranCount f_ranLast : Int32) (H : ∀ u' : SX, u'.1 = 0 → u'.2.2.2.2.1 = 0 → u'.2.2.2.2.2.2.2.2.2.2.2.2.2.2.2.2.2.2.2.2.2.1 0 = 0 → post u') (hc : f_count = 0) (hw : f_wrong = 0) : ∀ d m : Nat, m + d = 32 → ∀ (a_opOf a_dOf a_sOf a_nOf a_toOf a_kind a_lo a_hi a_z a_step a_origin a_reach a_wayAt a_seenKind a_seenLo a_seenHi a_seenZ a_jumped a_stayed a_memory a_isThere a_area a_value : Nat → Int32), wX_beginFirstWay_2 post f_count f_conditions f_ways f_isVerified f_wrong f_wrongAt f_size f_ranCount f_ranLast (d + 1) (nI m) a_opOf a_dOf a_sOf a_nOf a_toOf a_kind a_lo a_hi a_z a_step a_origin a_reach a_wayAt a_seenKind a_seenLo a_seenHi a_seenZ a_jumped a_stayed a_memory a_isThere a_area a_value := by
  intro d
  induction d with
  | zero =>
    intro m hm a_opOf a_dOf a_sOf a_nOf a_toOf a_kind a_lo a_hi a_z a_step a_origin a_reach a_wayAt a_seenKind a_seenLo a_seenHi a_seenZ a_jumped a_stayed a_memory a_isThere a_area a_value
    exact br_t (qa_ge (b := 32) rfl (by omega) (by omega)) ⟨11, qa_b23 post H 10 0 rfl f_count f_conditions f_ways f_isVerified f_wrong f_wrongAt f_size f_ranCount f_ranLast a_opOf a_dOf a_sOf a_nOf a_toOf a_kind a_lo a_hi a_z a_step a_origin a_reach a_wayAt a_seenKind a_seenLo a_seenHi a_seenZ a_jumped a_stayed a_memory a_isThere a_area a_value hc hw⟩
  | succ d ih =>
    intro m hm a_opOf a_dOf a_sOf a_nOf a_toOf a_kind a_lo a_hi a_z a_step a_origin a_reach a_wayAt a_seenKind a_seenLo a_seenHi a_seenZ a_jumped a_stayed a_memory a_isThere a_area a_value
    refine br_f (qa_ng (b := 32) rfl (by omega) (by decide)) ⟨vp_in_nI (by omega) (by decide), fun s _ x ex => ?_⟩
    rw [ex, nI_1]
    exact ih (m + 1) (by omega) _ _ _ _ _ _ _ _ _ _ _ _ _ _ _ _ _ _ _ _ _ _ _
theorem qa_first (post : SX → Prop) (u : SX) (H : ∀ u' : SX, u'.1 = 0 → u'.2.2.2.2.1 = 0 → u'.2.2.2.2.2.2.2.2.2.2.2.2.2.2.2.2.2.2.2.2.2.1 0 = 0 → post u') (hc : u.1 = 0) (hw : u.2.2.2.2.1 = 0) : wpX_beginFirstWay post u := by
  obtain ⟨f_count, f_conditions, f_ways, f_isVerified, f_wrong, f_wrongAt, f_size, f_ranCount, f_ranLast, a_opOf, a_dOf, a_sOf, a_nOf, a_toOf, a_kind, a_lo, a_hi, a_z, a_step, a_origin, a_reach, a_wayAt, a_seenKind, a_seenLo, a_seenHi, a_seenZ, a_jumped, a_stayed, a_memory, a_isThere, a_area, a_value⟩ := u
  exact Exists.intro 33 (qa_b2 post f_count f_conditions f_ways f_isVerified f_wrong f_wrongAt f_size f_ranCount f_ranLast H hc hw 32 0 rfl a_opOf a_dOf a_sOf a_nOf a_toOf a_kind a_lo a_hi a_z a_step a_origin a_reach a_wayAt a_seenKind a_seenLo a_seenHi a_seenZ a_jumped a_stayed a_memory a_isThere a_area a_value)
theorem qa_xfollow (post : SX → Prop) (f_count f_conditions f_ways f_isVerified f_wrong f_wrongAt f_size f_ranCount f_ranLast : Int32) (a_opOf a_dOf a_sOf a_nOf a_toOf a_kind a_lo a_hi a_z a_step a_origin a_reach a_wayAt a_seenKind a_seenLo a_seenHi a_seenZ a_jumped a_stayed a_memory a_isThere a_area a_value : Nat → Int32) (w : Int32) (H : ∀ u' : SX, u'.1 = 0 → u'.2.2.2.2.1 = 6 → post u') (hc : f_count = 0) (hw : f_wrong = 6 ∨ f_wrong = 0) : wpX_follow post (f_count, f_conditions, f_ways, f_isVerified, f_wrong, f_wrongAt, f_size, f_ranCount, f_ranLast, a_opOf, a_dOf, a_sOf, a_nOf, a_toOf, a_kind, a_lo, a_hi, a_z, a_step, a_origin, a_reach, a_wayAt, a_seenKind, a_seenLo, a_seenHi, a_seenZ, a_jumped, a_stayed, a_memory, a_isThere, a_area, a_value) w 0 := by
  refine br_t (qa_c0 hc) (br_f (by decide) (br_c (fun _ => H _ hc rfl) (fun hz => br_c (fun _ => H _ hc ?_) (fun _ => H _ hc rfl))))
  exact hw.resolve_right hz
theorem qa_v25 (post : Int32 → SX → Prop) (J10 : Int32 → Int32 → Int32 → Int32 → Int32 → Int32 → Int32 → Int32 → Int32 → Int32 → (Nat → Int32) → (Nat → Int32) → (Nat → Int32) → (Nat → Int32) → (Nat → Int32) → (Nat → Int32) → (Nat → Int32) → (Nat → Int32) → (Nat → Int32) → (Nat → Int32) → (Nat → Int32) → (Nat → Int32) → (Nat → Int32) → (Nat → Int32) → (Nat → Int32) → (Nat → Int32) → (Nat → Int32) → (Nat → Int32) → (Nat → Int32) → (Nat → Int32) → (Nat → Int32) → (Nat → Int32) → (Nat → Int32) → Prop) (HJ : ∀ (x : Int32) (f_count f_conditions f_ways f_isVerified f_wrong f_wrongAt f_size f_ranCount f_ranLast : Int32) (a_opOf a_dOf a_sOf a_nOf a_toOf a_kind a_lo a_hi a_z a_step a_origin a_reach a_wayAt a_seenKind a_seenLo a_seenHi a_seenZ a_jumped a_stayed a_memory a_isThere a_area a_value : Nat → Int32), x = 0 + 1 → f_wrong = 6 → J10 x f_count f_conditions f_ways f_isVerified f_wrong f_wrongAt f_size f_ranCount f_ranLast a_opOf a_dOf a_sOf a_nOf a_toOf a_kind a_lo a_hi a_z a_step a_origin a_reach a_wayAt a_seenKind a_seenLo a_seenHi a_seenZ a_jumped a_stayed a_memory a_isThere a_area a_value) : ∀ d m : Nat, m + d = 32 → ∀ (f_count f_conditions f_ways f_isVerified f_wrong f_wrongAt f_size f_ranCount f_ranLast : Int32) (a_opOf a_dOf a_sOf a_nOf a_toOf a_kind a_lo a_hi a_z a_step a_origin a_reach a_wayAt a_seenKind a_seenLo a_seenHi a_seenZ a_jumped a_stayed a_memory a_isThere a_area a_value : Nat → Int32), f_count = 0 → (f_wrong = 6 ∨ (m = 0 ∧ f_wrong = 0 ∧ a_wayAt 0 = 0)) → wX_verify_25 post J10 0 (d + 1) (nI m) f_count f_conditions f_ways f_isVerified f_wrong f_wrongAt f_size f_ranCount f_ranLast a_opOf a_dOf a_sOf a_nOf a_toOf a_kind a_lo a_hi a_z a_step a_origin a_reach a_wayAt a_seenKind a_seenLo a_seenHi a_seenZ a_jumped a_stayed a_memory a_isThere a_area a_value := by
  intro d
  induction d with
  | zero =>
    intro m hm f_count f_conditions f_ways f_isVerified f_wrong f_wrongAt f_size f_ranCount f_ranLast a_opOf a_dOf a_sOf a_nOf a_toOf a_kind a_lo a_hi a_z a_step a_origin a_reach a_wayAt a_seenKind a_seenLo a_seenHi a_seenZ a_jumped a_stayed a_memory a_isThere a_area a_value hc hw
    exact br_t (qa_ge (b := 32) rfl (by omega) (by omega)) (fun x ex => HJ x f_count f_conditions f_ways f_isVerified f_wrong f_wrongAt f_size f_ranCount f_ranLast a_opOf a_dOf a_sOf a_nOf a_toOf a_kind a_lo a_hi a_z a_step a_origin a_reach a_wayAt a_seenKind a_seenLo a_seenHi a_seenZ a_jumped a_stayed a_memory a_isThere a_area a_value ex (hw.elim id (fun z => absurd z.1 (by omega))))
  | succ d ih =>
    intro m hm f_count f_conditions f_ways f_isVerified f_wrong f_wrongAt f_size f_ranCount f_ranLast a_opOf a_dOf a_sOf a_nOf a_toOf a_kind a_lo a_hi a_z a_step a_origin a_reach a_wayAt a_seenKind a_seenLo a_seenHi a_seenZ a_jumped a_stayed a_memory a_isThere a_area a_value hc hw
    refine br_f (qa_ng (b := 32) rfl (by omega) (by decide)) ⟨vp_in_nI (by omega) (by decide), br_c (fun _ => ?_) (fun hne => ?_)⟩
    · refine qa_xfollow _ f_count f_conditions f_ways f_isVerified f_wrong f_wrongAt f_size f_ranCount f_ranLast a_opOf a_dOf a_sOf a_nOf a_toOf a_kind a_lo a_hi a_z a_step a_origin a_reach a_wayAt a_seenKind a_seenLo a_seenHi a_seenZ a_jumped a_stayed a_memory a_isThere a_area a_value (nI m) (fun u' hc' hw' => ?_) hc (hw.imp id (fun z => z.2.1))
      obtain ⟨f_count, f_conditions, f_ways, f_isVerified, f_wrong, f_wrongAt, f_size, f_ranCount, f_ranLast, a_opOf, a_dOf, a_sOf, a_nOf, a_toOf, a_kind, a_lo, a_hi, a_z, a_step, a_origin, a_reach, a_wayAt, a_seenKind, a_seenLo, a_seenHi, a_seenZ, a_jumped, a_stayed, a_memory, a_isThere, a_area, a_value⟩ := u'
      intro x ex
      rw [ex, nI_1]
      exact ih (m + 1) (by omega) _ _ _ _ _ _ _ _ _ _ _ _ _ _ _ _ _ _ _ _ _ _ _ _ _ _ _ _ _ _ _ _ hc' (Or.inl hw')
    · have h6 : f_wrong = 6 := by
        refine hw.elim id (fun z => absurd ?_ hne)
        rw [z.1, nI_clamp (by decide)]
        exact z.2.2
      intro x ex
      rw [ex, nI_1]
      exact ih (m + 1) (by omega) _ _ _ _ _ _ _ _ _ _ _ _ _ _ _ _ _ _ _ _ _ _ _ _ _ _ _ _ _ _ _ _ hc (Or.inl h6)
theorem qa_xverify (post : Int32 → SX → Prop) (u : SX) (H : ∀ u' : SX, post 6 u') (hc : u.1 = 0) : wpX_verify post u := by
  obtain ⟨f_count, f_conditions, f_ways, f_isVerified, f_wrong, f_wrongAt, f_size, f_ranCount, f_ranLast, a_opOf, a_dOf, a_sOf, a_nOf, a_toOf, a_kind, a_lo, a_hi, a_z, a_step, a_origin, a_reach, a_wayAt, a_seenKind, a_seenLo, a_seenHi, a_seenZ, a_jumped, a_stayed, a_memory, a_isThere, a_area, a_value⟩ := u
  unfold wpX_verify
  refine qa_forget _ _ (fun u' hc' hw' => ?_)
  obtain ⟨f_count, f_conditions, f_ways, f_isVerified, f_wrong, f_wrongAt, f_size, f_ranCount, f_ranLast, a_opOf, a_dOf, a_sOf, a_nOf, a_toOf, a_kind, a_lo, a_hi, a_z, a_step, a_origin, a_reach, a_wayAt, a_seenKind, a_seenLo, a_seenHi, a_seenZ, a_jumped, a_stayed, a_memory, a_isThere, a_area, a_value⟩ := u'
  refine qa_first _ _ (fun u'' hc'' hw'' hy'' => ?_) (hc'.trans hc) hw'
  obtain ⟨f_count, f_conditions, f_ways, f_isVerified, f_wrong, f_wrongAt, f_size, f_ranCount, f_ranLast, a_opOf, a_dOf, a_sOf, a_nOf, a_toOf, a_kind, a_lo, a_hi, a_z, a_step, a_origin, a_reach, a_wayAt, a_seenKind, a_seenLo, a_seenHi, a_seenZ, a_jumped, a_stayed, a_memory, a_isThere, a_area, a_value⟩ := u''
  refine ⟨2, br_f (by decide) (br_t hw'' ⟨33, qa_v25 post _ (fun x f_count f_conditions f_ways f_isVerified f_wrong f_wrongAt f_size f_ranCount f_ranLast a_opOf a_dOf a_sOf a_nOf a_toOf a_kind a_lo a_hi a_z a_step a_origin a_reach a_wayAt a_seenKind a_seenLo a_seenHi a_seenZ a_jumped a_stayed a_memory a_isThere a_area a_value ex h6 => ?_) 32 0 rfl f_count f_conditions f_ways f_isVerified f_wrong f_wrongAt f_size f_ranCount f_ranLast a_opOf a_dOf a_sOf a_nOf a_toOf a_kind a_lo a_hi a_z a_step a_origin a_reach a_wayAt a_seenKind a_seenLo a_seenHi a_seenZ a_jumped a_stayed a_memory a_isThere a_area a_value hc'' (Or.inr ⟨rfl, hw'', hy''⟩)⟩)⟩
  have h6' : f_wrong = 6 := h6
  refine br_f (by rw [ex] <;> decide) (br_f (by rw [h6'] <;> decide) ?_)
  rw [h6']
  exact H _
theorem qa_yfin (post : SY → Prop) (x1 : Int32) (f_count f_verified f_wrongAt f_wrong f_size f_done f_last : Int32) (a_ops a_ds a_ss a_ns a_tos a_kind a_lo a_hi a_zeros a_step a_origin a_reach a_kinds a_least a_greatest a_fewest a_jumps a_falls a_bytes a_cells a_there a_sort a_value a_which : Nat → Int32) (H : ∀ v' : SY, v'.1 = 0 → v'.2.2.2.1 = 6 → post v') (hc : f_count = 0) (hw : f_wrong = 6) : wY_follow_36 post x1 1 (-1) f_count f_verified f_wrongAt f_wrong f_size f_done f_last a_ops a_ds a_ss a_ns a_tos a_kind a_lo a_hi a_zeros a_step a_origin a_reach a_kinds a_least a_greatest a_fewest a_jumps a_falls a_bytes a_cells a_there a_sort a_value a_which := br_t (by decide) (H _ hc hw)
theorem qa_y36 (post : SY → Prop) (x1 : Int32) (f_count f_verified f_wrongAt f_wrong f_size f_done f_last : Int32) (a_ops a_ds a_ss a_ns a_tos a_kind a_lo a_hi a_zeros a_step a_origin a_reach a_kinds a_least a_greatest a_fewest a_jumps a_falls a_bytes a_cells a_there a_sort a_value a_which : Nat → Int32) (H : ∀ v' : SY, v'.1 = 0 → v'.2.2.2.1 = 6 → post v') (hc : f_count = 0) (hw : f_wrong = 6 ∨ f_wrong = 0) : wY_follow_36 post x1 2 0 f_count f_verified f_wrongAt f_wrong f_size f_done f_last a_ops a_ds a_ss a_ns a_tos a_kind a_lo a_hi a_zeros a_step a_origin a_reach a_kinds a_least a_greatest a_fewest a_jumps a_falls a_bytes a_cells a_there a_sort a_value a_which := by
  have h0 : f_count ≤ 0 := qa_c0 hc
  have n6 : ¬ f_wrong ≤ 0 → f_wrong = 6 := fun hz => hw.resolve_right (fun e => hz (qa_c0 e))
  refine br_f (by decide) (br_t h0 (br_t h0 (br_f (by decide) (br_c (fun _ => ?_) (fun hz => br_c (fun _ => ?_) (fun _ => br_c (fun _ => br_f (by rw [n6 hz] <;> decide) ?_) (fun _ => ?_)))))))
  · exact qa_yfin post x1 _ _ _ _ _ _ _ _ _ _ _ _ _ _ _ _ _ _ _ _ _ _ _ _ _ _ _ _ _ _ _ H hc rfl
  · exact qa_yfin post x1 _ _ _ _ _ _ _ _ _ _ _ _ _ _ _ _ _ _ _ _ _ _ _ _ _ _ _ _ _ _ _ H hc (n6 hz)
  · exact qa_yfin post x1 _ _ _ _ _ _ _ _ _ _ _ _ _ _ _ _ _ _ _ _ _ _ _ _ _ _ _ _ _ _ _ H hc (n6 hz)
  · exact qa_yfin post x1 _ _ _ _ _ _ _ _ _ _ _ _ _ _ _ _ _ _ _ _ _ _ _ _ _ _ _ _ _ _ _ H hc rfl
theorem qa_y2 (post : SY → Prop) (x1 : Int32) (f_count f_verified f_wrongAt f_wrong f_size f_done f_last : Int32) (H : ∀ v' : SY, v'.1 = 0 → v'.2.2.2.1 = 6 → post v') (hc : f_count = 0) (hw : f_wrong = 6 ∨ f_wrong = 0) : ∀ d m : Nat, m + d = 10 → ∀ (a_ops a_ds a_ss a_ns a_tos a_kind a_lo a_hi a_zeros a_step a_origin a_reach a_kinds a_least a_greatest a_fewest a_jumps a_falls a_bytes a_cells a_there a_sort a_value a_which : Nat → Int32), wY_follow_2 post x1 f_count f_verified f_wrongAt f_wrong f_size f_done f_last (d + 1) (nI m) a_ops a_ds a_ss a_ns a_tos a_kind a_lo a_hi a_zeros a_step a_origin a_reach a_kinds a_least a_greatest a_fewest a_jumps a_falls a_bytes a_cells a_there a_sort a_value a_which := by
  intro d
  induction d with
  | zero =>
    intro m hm a_ops a_ds a_ss a_ns a_tos a_kind a_lo a_hi a_zeros a_step a_origin a_reach a_kinds a_least a_greatest a_fewest a_jumps a_falls a_bytes a_cells a_there a_sort a_value a_which
    have hi : vp_in 1 12 := vp_in_iff.mpr (by decide)
    exact br_t (qa_ge (b := 10) rfl (by omega) (by omega)) (And.intro hi fun b1 _ => And.intro hi fun b2 _ => And.intro hi fun b3 _ => And.intro hi fun b4 _ => And.intro hi fun b5 _ => And.intro hi fun b6 _ => And.intro hi fun b7 _ => fun x _ => ⟨2, qa_y36 post x1 _ _ _ _ _ _ _ _ _ _ _ _ _ _ _ _ _ _ _ _ _ _ _ _ _ _ _ _ _ _ _ H hc hw⟩)
  | succ d ih =>
    intro m hm a_ops a_ds a_ss a_ns a_tos a_kind a_lo a_hi a_zeros a_step a_origin a_reach a_kinds a_least a_greatest a_fewest a_jumps a_falls a_bytes a_cells a_there a_sort a_value a_which
    refine br_f (qa_ng (b := 10) rfl (by omega) (by decide)) ⟨vp_in_nI (by omega) (by decide), fun s _ x ex => ?_⟩
    rw [ex, nI_1]
    exact ih (m + 1) (by omega) _ _ _ _ _ _ _ _ _ _ _ _ _ _ _ _ _ _ _ _ _ _ _ _
theorem qa_yfollow (post : SY → Prop) (v : SY) (x1 : Int32) (H : ∀ v' : SY, v'.1 = 0 → v'.2.2.2.1 = 6 → post v') (hc : v.1 = 0) (hw : v.2.2.2.1 = 6 ∨ v.2.2.2.1 = 0) : wpY_follow post v x1 := by
  obtain ⟨f_count, f_verified, f_wrongAt, f_wrong, f_size, f_done, f_last, a_ops, a_ds, a_ss, a_ns, a_tos, a_kind, a_lo, a_hi, a_zeros, a_step, a_origin, a_reach, a_kinds, a_least, a_greatest, a_fewest, a_jumps, a_falls, a_bytes, a_cells, a_there, a_sort, a_value, a_which⟩ := v
  exact Exists.intro 11 (qa_y2 post x1 f_count f_verified f_wrongAt f_wrong f_size f_done f_last H hc hw 10 0 rfl a_ops a_ds a_ss a_ns a_tos a_kind a_lo a_hi a_zeros a_step a_origin a_reach a_kinds a_least a_greatest a_fewest a_jumps a_falls a_bytes a_cells a_there a_sort a_value a_which)
theorem qa_y67 (post : Int32 → SY → Prop) (H : ∀ v' : SY, post 6 v') : ∀ d m : Nat, m + d = 32 → ∀ (f_count f_verified f_wrongAt f_wrong f_size f_done f_last : Int32) (a_ops a_ds a_ss a_ns a_tos a_kind a_lo a_hi a_zeros a_step a_origin a_reach a_kinds a_least a_greatest a_fewest a_jumps a_falls a_bytes a_cells a_there a_sort a_value a_which : Nat → Int32), f_count = 0 → (f_wrong = 6 ∨ (m = 0 ∧ f_wrong = 0)) → wY_verify_67 post (d + 1) (nI m) f_count f_verified f_wrongAt f_wrong f_size f_done f_last a_ops a_ds a_ss a_ns a_tos a_kind a_lo a_hi a_zeros a_step a_origin a_reach a_kinds a_least a_greatest a_fewest a_jumps a_falls a_bytes a_cells a_there a_sort a_value a_which := by
  intro d
  induction d with
  | zero =>
    intro m hm f_count f_verified f_wrongAt f_wrong f_size f_done f_last a_ops a_ds a_ss a_ns a_tos a_kind a_lo a_hi a_zeros a_step a_origin a_reach a_kinds a_least a_greatest a_fewest a_jumps a_falls a_bytes a_cells a_there a_sort a_value a_which hc hw
    have h6 : f_wrong = 6 := hw.elim id (fun z => absurd z.1 (by omega))
    refine br_t (qa_ge (b := 32) rfl (by omega) (by omega)) ?_
    rw [h6]
    exact H _
  | succ d ih =>
    intro m hm f_count f_verified f_wrongAt f_wrong f_size f_done f_last a_ops a_ds a_ss a_ns a_tos a_kind a_lo a_hi a_zeros a_step a_origin a_reach a_kinds a_least a_greatest a_fewest a_jumps a_falls a_bytes a_cells a_there a_sort a_value a_which hc hw
    refine br_f (qa_ng (b := 32) rfl (by omega) (by decide)) (qa_yfollow _ _ _ (fun v' hc' hw' => ?_) hc (hw.imp id (fun z => z.2)))
    obtain ⟨f_count, f_verified, f_wrongAt, f_wrong, f_size, f_done, f_last, a_ops, a_ds, a_ss, a_ns, a_tos, a_kind, a_lo, a_hi, a_zeros, a_step, a_origin, a_reach, a_kinds, a_least, a_greatest, a_fewest, a_jumps, a_falls, a_bytes, a_cells, a_there, a_sort, a_value, a_which⟩ := v'
    intro x ex
    rw [ex, nI_1]
    exact ih (m + 1) (by omega) _ _ _ _ _ _ _ _ _ _ _ _ _ _ _ _ _ _ _ _ _ _ _ _ _ _ _ _ _ _ _ hc' (Or.inl hw')
theorem qa_y39 (post : Int32 → SY → Prop) (f_count f_verified f_wrongAt f_wrong f_size f_done f_last : Int32) (H : ∀ v' : SY, post 6 v') (hc : f_count = 0) (hw : f_wrong = 0) : ∀ d m : Nat, m + d = 32 → ∀ (a_ops a_ds a_ss a_ns a_tos a_kind a_lo a_hi a_zeros a_step a_origin a_reach a_kinds a_least a_greatest a_fewest a_jumps a_falls a_bytes a_cells a_there a_sort a_value a_which : Nat → Int32), wY_verify_39 post f_count f_verified f_wrongAt f_wrong f_size f_done f_last (d + 1) (nI m) a_ops a_ds a_ss a_ns a_tos a_kind a_lo a_hi a_zeros a_step a_origin a_reach a_kinds a_least a_greatest a_fewest a_jumps a_falls a_bytes a_cells a_there a_sort a_value a_which := by
  intro d
  induction d with
  | zero =>
    intro m hm a_ops a_ds a_ss a_ns a_tos a_kind a_lo a_hi a_zeros a_step a_origin a_reach a_kinds a_least a_greatest a_fewest a_jumps a_falls a_bytes a_cells a_there a_sort a_value a_which
    exact br_t (qa_ge (b := 32) rfl (by omega) (by omega)) ⟨33, qa_y67 post H 32 0 rfl f_count f_verified f_wrongAt f_wrong f_size f_done f_last a_ops a_ds a_ss a_ns a_tos a_kind a_lo a_hi a_zeros a_step a_origin a_reach a_kinds a_least a_greatest a_fewest a_jumps a_falls a_bytes a_cells a_there a_sort a_value a_which hc (Or.inr ⟨rfl, hw⟩)⟩
  | succ d ih =>
    intro m hm a_ops a_ds a_ss a_ns a_tos a_kind a_lo a_hi a_zeros a_step a_origin a_reach a_kinds a_least a_greatest a_fewest a_jumps a_falls a_bytes a_cells a_there a_sort a_value a_which
    refine br_f (qa_ng (b := 32) rfl (by omega) (by decide)) ⟨vp_in_nI (by omega) (by decide), fun j _ => ⟨vp_in_nI (by omega) (by decide), fun s _ x ex => ?_⟩⟩
    rw [ex, nI_1]
    exact ih (m + 1) (by omega) _ _ _ _ _ _ _ _ _ _ _ _ _ _ _ _ _ _ _ _ _ _ _ _
theorem qa_y17 (post : Int32 → SY → Prop) (f_count f_verified f_wrongAt f_wrong f_size f_done f_last : Int32) (H : ∀ v' : SY, post 6 v') (hc : f_count = 0) (hw : f_wrong = 0) : ∀ d m : Nat, m + d = 320 → ∀ (a_ops a_ds a_ss a_ns a_tos a_kind a_lo a_hi a_zeros a_step a_origin a_reach a_kinds a_least a_greatest a_fewest a_jumps a_falls a_bytes a_cells a_there a_sort a_value a_which : Nat → Int32), wY_verify_17 post f_count f_verified f_wrongAt f_wrong f_size f_done f_last (d + 1) (nI m) a_ops a_ds a_ss a_ns a_tos a_kind a_lo a_hi a_zeros a_step a_origin a_reach a_kinds a_least a_greatest a_fewest a_jumps a_falls a_bytes a_cells a_there a_sort a_value a_which := by
  intro d
  induction d with
  | zero =>
    intro m hm a_ops a_ds a_ss a_ns a_tos a_kind a_lo a_hi a_zeros a_step a_origin a_reach a_kinds a_least a_greatest a_fewest a_jumps a_falls a_bytes a_cells a_there a_sort a_value a_which
    exact br_t (qa_ge (b := 320) rfl (by omega) (by omega)) ⟨33, qa_y39 post f_count f_verified f_wrongAt f_wrong f_size f_done f_last H hc hw 32 0 rfl a_ops a_ds a_ss a_ns a_tos a_kind a_lo a_hi a_zeros a_step a_origin a_reach a_kinds a_least a_greatest a_fewest a_jumps a_falls a_bytes a_cells a_there a_sort a_value a_which⟩
  | succ d ih =>
    intro m hm a_ops a_ds a_ss a_ns a_tos a_kind a_lo a_hi a_zeros a_step a_origin a_reach a_kinds a_least a_greatest a_fewest a_jumps a_falls a_bytes a_cells a_there a_sort a_value a_which
    refine br_f (qa_ng (b := 320) rfl (by omega) (by decide)) ⟨vp_in_nI (by omega) (by decide), fun s _ x ex => ?_⟩
    rw [ex, nI_1]
    exact ih (m + 1) (by omega) _ _ _ _ _ _ _ _ _ _ _ _ _ _ _ _ _ _ _ _ _ _ _ _
theorem qa_yverify (post : Int32 → SY → Prop) (v : SY) (H : ∀ v' : SY, post 6 v') (hc : v.1 = 0) : wpY_verify post v := by
  obtain ⟨f_count, f_verified, f_wrongAt, f_wrong, f_size, f_done, f_last, a_ops, a_ds, a_ss, a_ns, a_tos, a_kind, a_lo, a_hi, a_zeros, a_step, a_origin, a_reach, a_kinds, a_least, a_greatest, a_fewest, a_jumps, a_falls, a_bytes, a_cells, a_there, a_sort, a_value, a_which⟩ := v
  exact Exists.intro 321 (qa_y17 post f_count 1 (-1) 0 f_size f_done f_last H hc rfl 320 0 rfl a_ops a_ds a_ss a_ns a_tos a_kind a_lo a_hi a_zeros a_step a_origin a_reach a_kinds a_least a_greatest a_fewest a_jumps a_falls a_bytes a_cells a_there a_sort a_value a_which)
theorem i_vc_verify {k : Nat} {u : SX} {v : SY} (I : i_Rel k u v) (hk : k + 6 ≤ 6) : wpX_verify (fun r u' => wpY_verify (fun r' v' => r' = r ∧ i_Rel (k + 6) u' v') v) u := by
  obtain ⟨hu, hv⟩ := qa_k I hk
  subst hu hv
  exact qa_xverify _ _ (fun _ => qa_yverify _ _ (fun _ => ⟨rfl, qa_tail⟩) rfl) rfl
end
section
theorem qa_mul (a b : Nat) : nI a * nI b = nI (a * b) := (Int32.ofNat_mul a b).symm
theorem qa_8 (i j : Nat) : (8 : Int32) * nI i + nI j = nI (8 * i + j) := by
  show nI 8 * nI i + nI j = _
  rw [qa_mul, nI_add]
theorem qa_xe52 (post : Int32 → SX → Prop) (x1 x2 x3 x4 : Int32) (f_count f_conditions f_ways f_isVerified f_wrong f_wrongAt f_size f_ranCount f_ranLast : Int32) (a_opOf a_dOf a_sOf a_nOf a_toOf a_kind a_lo a_hi a_z a_step a_origin a_reach a_wayAt a_seenKind a_seenLo a_seenHi a_seenZ a_jumped a_stayed a_memory a_isThere a_area a_value : Nat → Int32) (H : ∀ u' : SX, post 1 u') (h1 : vp_in x1 8) (h2 : vp_in (x4 + x2) 80) : wX_enter_52 post x1 x2 x3 x4 f_count f_conditions f_ways f_isVerified f_wrong f_wrongAt f_size f_ranCount f_ranLast a_opOf a_dOf a_sOf a_nOf a_toOf a_kind a_lo a_hi a_z a_step a_origin a_reach a_wayAt a_seenKind a_seenLo a_seenHi a_seenZ a_jumped a_stayed a_memory a_isThere a_area a_value := And.intro h1 fun _ _ => And.intro h2 fun _ _ => H _
theorem qa_xe28 (post : Int32 → SX → Prop) (i j : Nat) (hi : i < 8) (hj : j < 8) (x3 : Int32) (f_count f_conditions f_ways f_isVerified f_wrong f_wrongAt f_size f_ranCount f_ranLast : Int32) (H : ∀ u' : SX, post 1 u') : ∀ d m : Nat, m + d = 8 → ∀ (a_opOf a_dOf a_sOf a_nOf a_toOf a_kind a_lo a_hi a_z a_step a_origin a_reach a_wayAt a_seenKind a_seenLo a_seenHi a_seenZ a_jumped a_stayed a_memory a_isThere a_area a_value : Nat → Int32), wX_enter_28 post (nI i) (nI j) x3 (nI (i * 8)) f_count f_conditions f_ways f_isVerified f_wrong f_wrongAt f_size f_ranCount f_ranLast (d + 1) (nI m) a_opOf a_dOf a_sOf a_nOf a_toOf a_kind a_lo a_hi a_z a_step a_origin a_reach a_wayAt a_seenKind a_seenLo a_seenHi a_seenZ a_jumped a_stayed a_memory a_isThere a_area a_value := by
  intro d
  induction d with
  | zero =>
    intro m hm a_opOf a_dOf a_sOf a_nOf a_toOf a_kind a_lo a_hi a_z a_step a_origin a_reach a_wayAt a_seenKind a_seenLo a_seenHi a_seenZ a_jumped a_stayed a_memory a_isThere a_area a_value
    exact br_t (qa_ge (b := 8) rfl (by omega) (by omega)) (qa_xe52 post _ _ _ _ f_count f_conditions f_ways f_isVerified f_wrong f_wrongAt f_size f_ranCount f_ranLast a_opOf a_dOf a_sOf a_nOf a_toOf a_kind a_lo a_hi a_z a_step a_origin a_reach a_wayAt a_seenKind a_seenLo a_seenHi a_seenZ a_jumped a_stayed a_memory a_isThere a_area a_value H (vp_in_nI hi (by decide)) (by rw [nI_add]; exact vp_in_nI (by omega) (by decide)))
  | succ d ih =>
    intro m hm a_opOf a_dOf a_sOf a_nOf a_toOf a_kind a_lo a_hi a_z a_step a_origin a_reach a_wayAt a_seenKind a_seenLo a_seenHi a_seenZ a_jumped a_stayed a_memory a_isThere a_area a_value
    refine br_f (qa_ng (b := 8) rfl (by omega) (by decide)) ⟨by rw [nI_add]; exact vp_in_nI (by omega) (by decide), fun s _ x ex => ?_⟩
    rw [ex, nI_1]
    exact ih (m + 1) (by omega) _ _ _ _ _ _ _ _ _ _ _ _ _ _ _ _ _ _ _ _ _ _ _
theorem qa_ye60 (post : Int32 → SY → Prop) (x1 x2 x3 : Int32) (f_count f_verified f_wrongAt f_wrong f_size f_done f_last : Int32) (a_ops a_ds a_ss a_ns a_tos a_kind a_lo a_hi a_zeros a_step a_origin a_reach a_kinds a_least a_greatest a_fewest a_jumps a_falls a_bytes a_cells a_there a_sort a_value a_which : Nat → Int32) (H : ∀ v' : SY, post 1 v') (h1 : vp_in x1 8) (h2 : vp_in (8 * x1 + x2) 64) : wY_enter_60 post x1 x2 x3 f_count f_verified f_wrongAt f_wrong f_size f_done f_last a_ops a_ds a_ss a_ns a_tos a_kind a_lo a_hi a_zeros a_step a_origin a_reach a_kinds a_least a_greatest a_fewest a_jumps a_falls a_bytes a_cells a_there a_sort a_value a_which := And.intro h1 fun _ _ => And.intro h2 fun _ _ => H _
theorem qa_ye25 (post : Int32 → SY → Prop) (i j : Nat) (hi : i < 8) (hj : j < 8) (x3 : Int32) (f_count f_verified f_wrongAt f_wrong f_size f_done f_last : Int32) (H : ∀ v' : SY, post 1 v') : ∀ d m : Nat, m + d = 8 → ∀ (a_ops a_ds a_ss a_ns a_tos a_kind a_lo a_hi a_zeros a_step a_origin a_reach a_kinds a_least a_greatest a_fewest a_jumps a_falls a_bytes a_cells a_there a_sort a_value a_which : Nat → Int32), wY_enter_25 post (nI i) (nI j) x3 f_count f_verified f_wrongAt f_wrong f_size f_done f_last (d + 1) (nI m) a_ops a_ds a_ss a_ns a_tos a_kind a_lo a_hi a_zeros a_step a_origin a_reach a_kinds a_least a_greatest a_fewest a_jumps a_falls a_bytes a_cells a_there a_sort a_value a_which := by
  intro d
  induction d with
  | zero =>
    intro m hm a_ops a_ds a_ss a_ns a_tos a_kind a_lo a_hi a_zeros a_step a_origin a_reach a_kinds a_least a_greatest a_fewest a_jumps a_falls a_bytes a_cells a_there a_sort a_value a_which
    exact br_t (qa_ge (b := 8) rfl (by omega) (by omega)) (qa_ye60 post _ _ _ f_count f_verified f_wrongAt f_wrong f_size f_done f_last a_ops a_ds a_ss a_ns a_tos a_kind a_lo a_hi a_zeros a_step a_origin a_reach a_kinds a_least a_greatest a_fewest a_jumps a_falls a_bytes a_cells a_there a_sort a_value a_which H (vp_in_nI hi (by decide)) (by rw [qa_8]; exact vp_in_nI (by omega) (by decide)))
  | succ d ih =>
    intro m hm a_ops a_ds a_ss a_ns a_tos a_kind a_lo a_hi a_zeros a_step a_origin a_reach a_kinds a_least a_greatest a_fewest a_jumps a_falls a_bytes a_cells a_there a_sort a_value a_which
    refine br_f (qa_ng (b := 8) rfl (by omega) (by decide)) ⟨vp_in_nI hi (by decide), br_c (fun _ => ⟨by rw [qa_8]; exact vp_in_nI (by omega) (by decide), fun s _ x ex => ?_⟩) (fun _ => qa_ye60 post _ _ _ f_count f_verified f_wrongAt f_wrong f_size f_done f_last a_ops a_ds a_ss a_ns a_tos a_kind a_lo a_hi a_zeros a_step a_origin a_reach a_kinds a_least a_greatest a_fewest a_jumps a_falls a_bytes a_cells a_there a_sort a_value a_which H (vp_in_nI hi (by decide)) (by rw [qa_8]; exact vp_in_nI (by omega) (by decide)))⟩
    rw [ex, nI_1]
    exact ih (m + 1) (by omega) _ _ _ _ _ _ _ _ _ _ _ _ _ _ _ _ _ _ _ _ _ _ _ _
theorem qa_n7 {i : Nat} (hi : i < 8) : ¬ (7 : Int32) < nI i := nI_nlt (b := i) (a := 7) (by omega) (by decide)
theorem qa_yenter (post : Int32 → SY → Prop) (v : SY) (i j : Nat) (hi : i < 8) (hj : j < 8) (x3 : Int32) (H : ∀ v' : SY, post 1 v') : wpY_enter post v (nI i) (nI j) x3 := by
  obtain ⟨f_count, f_verified, f_wrongAt, f_wrong, f_size, f_done, f_last, a_ops, a_ds, a_ss, a_ns, a_tos, a_kind, a_lo, a_hi, a_zeros, a_step, a_origin, a_reach, a_kinds, a_least, a_greatest, a_fewest, a_jumps, a_falls, a_bytes, a_cells, a_there, a_sort, a_value, a_which⟩ := v
  exact br_f (nI_pos (by omega)) (br_f (qa_n7 hi) (br_f (by decide) (br_f (nI_pos (by omega)) (br_f (qa_n7 hj) (br_f (by decide) ⟨9, qa_ye25 post i j hi hj x3 f_count f_verified f_wrongAt f_wrong f_size f_done f_last H 8 0 rfl a_ops a_ds a_ss a_ns a_tos a_kind a_lo a_hi a_zeros a_step a_origin a_reach a_kinds a_least a_greatest a_fewest a_jumps a_falls a_bytes a_cells a_there a_sort a_value a_which⟩)))))
theorem qa_of8 {x : Int32} (h0 : ¬ x < 0) (h : ¬ 8 ≤ x) : ∃ i : Nat, i < 8 ∧ x = nI i := vp_in_of (qa_in8 h0 h) (by decide)
theorem i_vc_enter {k : Nat} {u : SX} {v : SY} (I : i_Rel k u v) (hk : k + 6 ≤ 6) (v1 : Int32) (v2 : Int32) (v3 : Int32) : wpX_enter (fun r u' => wpY_enter (fun r' v' => r' = r ∧ i_Rel (k + 6) u' v') v v1 v2 v3) u v1 v2 v3 := by
  obtain ⟨hu, hv⟩ := qa_k I hk
  subst hu hv
  by_cases h0 : v1 < 0
  · exact br_t h0 (br_t rfl (br_t h0 (br_t rfl ⟨rfl, qa_tail⟩)))
  by_cases h8 : 8 ≤ v1
  · exact br_f h0 (br_t h8 (br_t rfl (br_f h0 (br_t (qa_78 h8) (br_t rfl ⟨rfl, qa_tail⟩)))))
  by_cases k0 : v2 < 0
  · exact br_f h0 (br_f h8 (br_t k0 (br_t rfl (br_f h0 (br_f (qa_87 h8) (br_f (by decide) (br_t k0 (br_t rfl ⟨rfl, qa_tail⟩))))))))
  by_cases k8 : 8 ≤ v2
  · exact br_f h0 (br_f h8 (br_f k0 (br_t k8 (br_t rfl (br_f h0 (br_f (qa_87 h8) (br_f (by decide) (br_f k0 (br_t (qa_78 k8) (br_t rfl ⟨rfl, qa_tail⟩))))))))))
  · obtain ⟨i, hi, rfl⟩ := qa_of8 h0 h8
    obtain ⟨j, hj, rfl⟩ := qa_of8 k0 k8
    refine br_f h0 (br_f h8 (br_f k0 (br_f k8 (br_f (by decide) (fun x ex => ⟨vp_in_nI hi (by decide), br_t rfl ⟨9, ?_⟩⟩)))))
    have e : x = nI (i * 8) := ex.trans (qa_mul i 8)
    rw [e]
    exact qa_xe28 _ i j hi hj v3 _ _ _ _ _ _ _ _ _ (fun _ => qa_yenter _ _ i j hi hj v3 (fun _ => ⟨rfl, qa_tail⟩)) 8 0 rfl _ _ _ _ _ _ _ _ _ _ _ _ _ _ _ _ _ _ _ _ _ _ _
end
section
theorem qa_l0 : (0 : Int32).toInt = 0 := by decide
theorem qa_l1 : (1 : Int32).toInt = 1 := by decide
theorem qa_l2 : (2 : Int32).toInt = 2 := by decide
theorem qa_l3 : (3 : Int32).toInt = 3 := by decide
theorem qa_l5 : (5 : Int32).toInt = 5 := by decide
theorem qa_l6 : (6 : Int32).toInt = 6 := by decide
theorem qa_l11 : (11 : Int32).toInt = 11 := by decide
theorem qa_l12 : (12 : Int32).toInt = 12 := by decide
theorem qa_l15 : (15 : Int32).toInt = 15 := by decide
theorem qa_l16 : (16 : Int32).toInt = 16 := by decide
theorem qa_l17 : (17 : Int32).toInt = 17 := by decide
theorem qa_l18 : (18 : Int32).toInt = 18 := by decide
theorem qa_l20 : (20 : Int32).toInt = 20 := by decide
theorem qa_l21 : (21 : Int32).toInt = 21 := by decide
theorem qa_l22 : (22 : Int32).toInt = 22 := by decide
theorem qa_l28 : (28 : Int32).toInt = 28 := by decide
theorem qa_l29 : (29 : Int32).toInt = 29 := by decide
theorem qa_l31 : (31 : Int32).toInt = 31 := by decide
theorem qa_l32 : (32 : Int32).toInt = 32 := by decide
theorem qa_l255 : (255 : Int32).toInt = 255 := by decide
theorem qa_l65535 : (65535 : Int32).toInt = 65535 := by decide
theorem qa_lm1 : (-1 : Int32).toInt = -1 := by decide
theorem qa_lt {x y : Int32} : x < y ↔ x.toInt < y.toInt := Int32.lt_iff_toInt_lt
theorem qa_le {x y : Int32} : x ≤ y ↔ x.toInt ≤ y.toInt := Int32.le_iff_toInt_le
theorem qa_eq {x y : Int32} : x = y ↔ x.toInt = y.toInt := Int32.toInt_inj.symm
def qa_K1 (o n : Int) : Prop := (o = 0 → 0 ≤ n ∧ n ≤ 65535) ∧ (12 ≤ o ∧ o ≤ 15 → 0 ≤ n ∧ n ≤ 255) ∧ (o = 16 ∨ o = 17 → 0 ≤ n ∧ n ≤ 3)
def qa_K2 (o n t : Int) : Prop := (21 ≤ o ∧ o ≤ 28 → 1 ≤ t ∧ t ≤ 31) ∧ qa_K1 o n
def qa_K3 (o d s n t : Int) : Prop := (22 ≤ o ∧ o ≤ 28 → ¬ s = d) ∧ qa_K2 o n t
def qa_K4 (o d s n t : Int) : Prop := ((2 ≤ o ∧ o ≤ 11) ∨ (22 ≤ o ∧ o ≤ 28) → (0 ≤ s ∧ s ≤ 5) ∨ (s = -1 ∧ 0 ≤ n ∧ n ≤ 65535)) ∧ qa_K3 o d s n t
def qa_K5 (o d s n t : Int) : Prop := (o = 1 ∨ (12 ≤ o ∧ o ≤ 15) → 0 ≤ s ∧ s ≤ 5) ∧ qa_K4 o d s n t
def qa_K6 (o d s n t : Int) : Prop := (o ≤ 17 ∨ (22 ≤ o ∧ o ≤ 28) → 0 ≤ d ∧ d ≤ 5) ∧ qa_K5 o d s n t
def qa_K7 (o d s n t : Int) : Prop := (0 ≤ o ∧ o ≤ 29) ∧ qa_K6 o d s n t
theorem qa_xcond (post : Int32 → Prop) (o : Int32) (h1 : 22 ≤ o.toInt ∧ o.toInt ≤ 28 → post 1) (h0 : ¬ (22 ≤ o.toInt ∧ o.toInt ≤ 28) → post 0) : wpX_isCondition post o := by
  refine br_c (fun h => h0 ?_) (fun h => br_c (fun h' => h0 ?_) (fun h' => h1 ?_)) <;> simp only [qa_lt, qa_le, qa_eq, qa_l0, qa_l1, qa_l2, qa_l3, qa_l5, qa_l6, qa_l11, qa_l12, qa_l15, qa_l16, qa_l17, qa_l18, qa_l20, qa_l21, qa_l22, qa_l28, qa_l29, qa_l31, qa_l32, qa_l255, qa_l65535, qa_lm1] at * <;> omega
theorem qa_xreg (post : Int32 → Prop) (o : Int32) (h1 : 0 ≤ o.toInt ∧ o.toInt ≤ 5 → post 1) (h0 : ¬ (0 ≤ o.toInt ∧ o.toInt ≤ 5) → post 0) : wpX_isRegister post o := by
  refine br_c (fun h => h0 ?_) (fun h => br_c (fun h' => h0 ?_) (fun h' => h1 ?_)) <;> simp only [qa_lt, qa_le, qa_eq, qa_l0, qa_l1, qa_l2, qa_l3, qa_l5, qa_l6, qa_l11, qa_l12, qa_l15, qa_l16, qa_l17, qa_l18, qa_l20, qa_l21, qa_l22, qa_l28, qa_l29, qa_l31, qa_l32, qa_l255, qa_l65535, qa_lm1] at * <;> omega
theorem qa_xneed (post : Int32 → Prop) (o : Int32) (h1 : (o.toInt = 1 ∨ (12 ≤ o.toInt ∧ o.toInt ≤ 15)) → post 1) (h0 : ¬ (o.toInt = 1 ∨ (12 ≤ o.toInt ∧ o.toInt ≤ 15)) → post 0) : wpX_needsRegisterS post o := by
  refine br_c (fun h => h1 ?_) (fun h => br_c (fun h' => h0 ?_) (fun h' => br_c (fun h'' => h0 ?_) (fun h'' => h1 ?_))) <;> simp only [qa_lt, qa_le, qa_eq, qa_l0, qa_l1, qa_l2, qa_l3, qa_l5, qa_l6, qa_l11, qa_l12, qa_l15, qa_l16, qa_l17, qa_l18, qa_l20, qa_l21, qa_l22, qa_l28, qa_l29, qa_l31, qa_l32, qa_l255, qa_l65535, qa_lm1] at * <;> omega
theorem qa_xtakes (post : Int32 → Prop) (o : Int32) (h1 : ((2 ≤ o.toInt ∧ o.toInt ≤ 11) ∨ (22 ≤ o.toInt ∧ o.toInt ≤ 28)) → post 1) (h0 : ¬ ((2 ≤ o.toInt ∧ o.toInt ≤ 11) ∨ (22 ≤ o.toInt ∧ o.toInt ≤ 28)) → post 0) : wpX_takesX post o := by
  refine br_c (fun h => br_c (fun h' => h0 ?_) (fun h' => br_c (fun h'' => h0 ?_) (fun h'' => h1 ?_))) (fun h => br_c (fun h' => h1 ?_) (fun h' => br_c (fun h'' => h0 ?_) (fun h'' => br_c (fun h3 => h0 ?_) (fun h3 => h1 ?_)))) <;> simp only [qa_lt, qa_le, qa_eq, qa_l0, qa_l1, qa_l2, qa_l3, qa_l5, qa_l6, qa_l11, qa_l12, qa_l15, qa_l16, qa_l17, qa_l18, qa_l20, qa_l21, qa_l22, qa_l28, qa_l29, qa_l31, qa_l32, qa_l255, qa_l65535, qa_lm1] at * <;> omega
theorem qa_xgreat (post : Int32 → Prop) (o : Int32) (ha : o.toInt = 0 → post 65535) (hb : 12 ≤ o.toInt ∧ o.toInt ≤ 15 → post 255) (hc : o.toInt = 16 ∨ o.toInt = 17 → post 3) (hd : ¬ o.toInt = 0 ∧ ¬ (12 ≤ o.toInt ∧ o.toInt ≤ 15) ∧ ¬ (o.toInt = 16 ∨ o.toInt = 17) → post (-1)) : wpX_greatestN post o := by
  refine br_c (fun h => ha ?_) (fun h => br_c (fun h' => br_c (fun h2 => hc ?_) (fun h2 => br_c (fun h3 => hc ?_) (fun h3 => hd ?_))) (fun h' => br_c (fun h4 => br_c (fun h2 => hc ?_) (fun h2 => br_c (fun h3 => hc ?_) (fun h3 => hd ?_))) (fun h4 => hb ?_))) <;> simp only [qa_lt, qa_le, qa_eq, qa_l0, qa_l1, qa_l2, qa_l3, qa_l5, qa_l6, qa_l11, qa_l12, qa_l15, qa_l16, qa_l17, qa_l18, qa_l20, qa_l21, qa_l22, qa_l28, qa_l29, qa_l31, qa_l32, qa_l255, qa_l65535, qa_lm1] at * <;> omega
theorem qa_x128 (post : Int32 → Prop) (x1 x4 : Int32) (f_count f_conditions f_ways f_isVerified f_wrong f_wrongAt f_size f_ranCount f_ranLast : Int32) (a_opOf a_dOf a_sOf a_nOf a_toOf a_kind a_lo a_hi a_z a_step a_origin a_reach a_wayAt a_seenKind a_seenLo a_seenHi a_seenZ a_jumped a_stayed a_memory a_isThere a_area a_value : Nat → Int32) (h1 : qa_K1 x1.toInt x4.toInt → post 1) (h0 : ¬ qa_K1 x1.toInt x4.toInt → post 0) : wX_isAsSaid_128 post x1 x4 f_count f_conditions f_ways f_isVerified f_wrong f_wrongAt f_size f_ranCount f_ranLast a_opOf a_dOf a_sOf a_nOf a_toOf a_kind a_lo a_hi a_z a_step a_origin a_reach a_wayAt a_seenKind a_seenLo a_seenHi a_seenZ a_jumped a_stayed a_memory a_isThere a_area a_value := by
  unfold qa_K1 at h1 h0
  unfold wX_isAsSaid_128
  refine qa_xgreat _ x1 (fun e => br_f (by decide) (br_c (fun h => h0 ?_) (fun h => br_c (fun h' => h0 ?_) (fun h' => h1 ?_)))) (fun e => br_f (by decide) (br_c (fun h => h0 ?_) (fun h => br_c (fun h' => h0 ?_) (fun h' => h1 ?_)))) (fun e => br_f (by decide) (br_c (fun h => h0 ?_) (fun h => br_c (fun h' => h0 ?_) (fun h' => h1 ?_)))) (fun e => br_t rfl (h1 ?_))
  all_goals try simp only [qa_lt, qa_le, qa_eq, qa_l0, qa_l1, qa_l2, qa_l3, qa_l5, qa_l6, qa_l11, qa_l12, qa_l15, qa_l16, qa_l17, qa_l18, qa_l20, qa_l21, qa_l22, qa_l28, qa_l29, qa_l31, qa_l32, qa_l255, qa_l65535, qa_lm1] at h
  all_goals try simp only [qa_lt, qa_le, qa_eq, qa_l0, qa_l1, qa_l2, qa_l3, qa_l5, qa_l6, qa_l11, qa_l12, qa_l15, qa_l16, qa_l17, qa_l18, qa_l20, qa_l21, qa_l22, qa_l28, qa_l29, qa_l31, qa_l32, qa_l255, qa_l65535, qa_lm1] at h'
  all_goals clear h1 h0
  all_goals omega
theorem qa_x110 (post : Int32 → Prop) (x1 x4 x5 : Int32) (f_count f_conditions f_ways f_isVerified f_wrong f_wrongAt f_size f_ranCount f_ranLast : Int32) (a_opOf a_dOf a_sOf a_nOf a_toOf a_kind a_lo a_hi a_z a_step a_origin a_reach a_wayAt a_seenKind a_seenLo a_seenHi a_seenZ a_jumped a_stayed a_memory a_isThere a_area a_value : Nat → Int32) (hc : f_count = 0) (h1 : qa_K2 x1.toInt x4.toInt x5.toInt → post 1) (h0 : ¬ qa_K2 x1.toInt x4.toInt x5.toInt → post 0) (ho : 21 ≤ x1.toInt ∧ x1.toInt ≤ 28) : wX_isAsSaid_110 post x1 x4 x5 f_count f_conditions f_ways f_isVerified f_wrong f_wrongAt f_size f_ranCount f_ranLast a_opOf a_dOf a_sOf a_nOf a_toOf a_kind a_lo a_hi a_z a_step a_origin a_reach a_wayAt a_seenKind a_seenLo a_seenHi a_seenZ a_jumped a_stayed a_memory a_isThere a_area a_value := by
  subst hc
  refine br_c (fun h => h0 (fun z => ?_)) (fun h => br_c (fun h' => qa_x128 post x1 x4 _ _ _ _ _ _ _ _ _ _ _ _ _ _ _ _ _ _ _ _ _ _ _ _ _ _ _ _ _ _ _ _ (fun k => h1 ⟨fun _ => ?_, k⟩) (fun nk => h0 (fun z => nk z.2))) (fun h' => h0 (fun z => ?_)))
  · have := z.1 ho
    simp only [qa_lt, qa_le, qa_eq, qa_l0, qa_l1, qa_l2, qa_l3, qa_l5, qa_l6, qa_l11, qa_l12, qa_l15, qa_l16, qa_l17, qa_l18, qa_l20, qa_l21, qa_l22, qa_l28, qa_l29, qa_l31, qa_l32, qa_l255, qa_l65535, qa_lm1] at h
    omega
  · simp only [qa_lt, qa_le, qa_eq, qa_l0, qa_l1, qa_l2, qa_l3, qa_l5, qa_l6, qa_l11, qa_l12, qa_l15, qa_l16, qa_l17, qa_l18, qa_l20, qa_l21, qa_l22, qa_l28, qa_l29, qa_l31, qa_l32, qa_l255, qa_l65535, qa_lm1] at h h'
    omega
  · have := z.1 ho
    simp only [qa_lt, qa_le, qa_eq, qa_l0, qa_l1, qa_l2, qa_l3, qa_l5, qa_l6, qa_l11, qa_l12, qa_l15, qa_l16, qa_l17, qa_l18, qa_l20, qa_l21, qa_l22, qa_l28, qa_l29, qa_l31, qa_l32, qa_l255, qa_l65535, qa_lm1] at h'
    omega
theorem qa_x99 (post : Int32 → Prop) (x1 x4 x5 x6 : Int32) (f_count f_conditions f_ways f_isVerified f_wrong f_wrongAt f_size f_ranCount f_ranLast : Int32) (a_opOf a_dOf a_sOf a_nOf a_toOf a_kind a_lo a_hi a_z a_step a_origin a_reach a_wayAt a_seenKind a_seenLo a_seenHi a_seenZ a_jumped a_stayed a_memory a_isThere a_area a_value : Nat → Int32) (hc : f_count = 0) (h6 : (22 ≤ x1.toInt ∧ x1.toInt ≤ 28 ∧ x6 = 1) ∨ (¬ (22 ≤ x1.toInt ∧ x1.toInt ≤ 28) ∧ x6 = 0)) (h1 : qa_K2 x1.toInt x4.toInt x5.toInt → post 1) (h0 : ¬ qa_K2 x1.toInt x4.toInt x5.toInt → post 0) : wX_isAsSaid_99 post x1 x4 x5 x6 f_count f_conditions f_ways f_isVerified f_wrong f_wrongAt f_size f_ranCount f_ranLast a_opOf a_dOf a_sOf a_nOf a_toOf a_kind a_lo a_hi a_z a_step a_origin a_reach a_wayAt a_seenKind a_seenLo a_seenHi a_seenZ a_jumped a_stayed a_memory a_isThere a_area a_value := by
  refine br_c (fun h => qa_x110 post x1 x4 x5 f_count f_conditions f_ways f_isVerified f_wrong f_wrongAt f_size f_ranCount f_ranLast a_opOf a_dOf a_sOf a_nOf a_toOf a_kind a_lo a_hi a_z a_step a_origin a_reach a_wayAt a_seenKind a_seenLo a_seenHi a_seenZ a_jumped a_stayed a_memory a_isThere a_area a_value hc h1 h0 ?_) (fun h => br_c (fun h' => qa_x128 post x1 x4 f_count f_conditions f_ways f_isVerified f_wrong f_wrongAt f_size f_ranCount f_ranLast a_opOf a_dOf a_sOf a_nOf a_toOf a_kind a_lo a_hi a_z a_step a_origin a_reach a_wayAt a_seenKind a_seenLo a_seenHi a_seenZ a_jumped a_stayed a_memory a_isThere a_area a_value (fun k => h1 ⟨fun hz => ?_, k⟩) (fun nk => h0 (fun z => nk z.2))) (fun h' => qa_x110 post x1 x4 x5 f_count f_conditions f_ways f_isVerified f_wrong f_wrongAt f_size f_ranCount f_ranLast a_opOf a_dOf a_sOf a_nOf a_toOf a_kind a_lo a_hi a_z a_step a_origin a_reach a_wayAt a_seenKind a_seenLo a_seenHi a_seenZ a_jumped a_stayed a_memory a_isThere a_area a_value hc h1 h0 ?_))
  · simp only [qa_lt, qa_le, qa_eq, qa_l0, qa_l1, qa_l2, qa_l3, qa_l5, qa_l6, qa_l11, qa_l12, qa_l15, qa_l16, qa_l17, qa_l18, qa_l20, qa_l21, qa_l22, qa_l28, qa_l29, qa_l31, qa_l32, qa_l255, qa_l65535, qa_lm1] at h
    omega
  · simp only [qa_lt, qa_le, qa_eq, qa_l0, qa_l1, qa_l2, qa_l3, qa_l5, qa_l6, qa_l11, qa_l12, qa_l15, qa_l16, qa_l17, qa_l18, qa_l20, qa_l21, qa_l22, qa_l28, qa_l29, qa_l31, qa_l32, qa_l255, qa_l65535, qa_lm1] at h
    rcases h6 with h6 | h6
    · exact absurd (h6.2.2.symm.trans h') (by decide)
    · omega
  · rcases h6 with h6 | h6
    · omega
    · exact absurd h6.2 h'
theorem qa_x87 (post : Int32 → Prop) (x1 x2 x3 x4 x5 x6 : Int32) (f_count f_conditions f_ways f_isVerified f_wrong f_wrongAt f_size f_ranCount f_ranLast : Int32) (a_opOf a_dOf a_sOf a_nOf a_toOf a_kind a_lo a_hi a_z a_step a_origin a_reach a_wayAt a_seenKind a_seenLo a_seenHi a_seenZ a_jumped a_stayed a_memory a_isThere a_area a_value : Nat → Int32) (hc : f_count = 0) (h6 : (22 ≤ x1.toInt ∧ x1.toInt ≤ 28 ∧ x6 = 1) ∨ (¬ (22 ≤ x1.toInt ∧ x1.toInt ≤ 28) ∧ x6 = 0)) (h1 : qa_K3 x1.toInt x2.toInt x3.toInt x4.toInt x5.toInt → post 1) (h0 : ¬ qa_K3 x1.toInt x2.toInt x3.toInt x4.toInt x5.toInt → post 0) : wX_isAsSaid_87 post x1 x2 x3 x4 x5 x6 f_count f_conditions f_ways f_isVerified f_wrong f_wrongAt f_size f_ranCount f_ranLast a_opOf a_dOf a_sOf a_nOf a_toOf a_kind a_lo a_hi a_z a_step a_origin a_reach a_wayAt a_seenKind a_seenLo a_seenHi a_seenZ a_jumped a_stayed a_memory a_isThere a_area a_value := by
  refine br_c (fun h => qa_x99 post x1 x4 x5 x6 f_count f_conditions f_ways f_isVerified f_wrong f_wrongAt f_size f_ranCount f_ranLast a_opOf a_dOf a_sOf a_nOf a_toOf a_kind a_lo a_hi a_z a_step a_origin a_reach a_wayAt a_seenKind a_seenLo a_seenHi a_seenZ a_jumped a_stayed a_memory a_isThere a_area a_value hc h6 (fun k => h1 ⟨fun hz => ?_, k⟩) (fun nk => h0 (fun z => nk z.2))) (fun h => br_c (fun h' => h0 (fun z => ?_)) (fun h' => qa_x99 post x1 x4 x5 x6 f_count f_conditions f_ways f_isVerified f_wrong f_wrongAt f_size f_ranCount f_ranLast a_opOf a_dOf a_sOf a_nOf a_toOf a_kind a_lo a_hi a_z a_step a_origin a_reach a_wayAt a_seenKind a_seenLo a_seenHi a_seenZ a_jumped a_stayed a_memory a_isThere a_area a_value hc h6 (fun k => h1 ⟨fun _ => ?_, k⟩) (fun nk => h0 (fun z => nk z.2))))
  · rcases h6 with h6 | h6
    · exact absurd (h6.2.2.symm.trans h) (by decide)
    · exact absurd hz h6.1
  · rcases h6 with h6 | h6
    · exact z.1 ⟨h6.1, h6.2.1⟩ (by rw [h'])
    · exact h h6.2
  · exact fun e => h' (Int32.toInt_inj.mp e)
theorem qa_x54 (post : Int32 → Prop) (x1 x2 x3 x4 x5 x6 : Int32) (f_count f_conditions f_ways f_isVerified f_wrong f_wrongAt f_size f_ranCount f_ranLast : Int32) (a_opOf a_dOf a_sOf a_nOf a_toOf a_kind a_lo a_hi a_z a_step a_origin a_reach a_wayAt a_seenKind a_seenLo a_seenHi a_seenZ a_jumped a_stayed a_memory a_isThere a_area a_value : Nat → Int32) (hc : f_count = 0) (h6 : (22 ≤ x1.toInt ∧ x1.toInt ≤ 28 ∧ x6 = 1) ∨ (¬ (22 ≤ x1.toInt ∧ x1.toInt ≤ 28) ∧ x6 = 0)) (h1 : qa_K4 x1.toInt x2.toInt x3.toInt x4.toInt x5.toInt → post 1) (h0 : ¬ qa_K4 x1.toInt x2.toInt x3.toInt x4.toInt x5.toInt → post 0) : wX_isAsSaid_54 post x1 x2 x3 x4 x5 x6 f_count f_conditions f_ways f_isVerified f_wrong f_wrongAt f_size f_ranCount f_ranLast a_opOf a_dOf a_sOf a_nOf a_toOf a_kind a_lo a_hi a_z a_step a_origin a_reach a_wayAt a_seenKind a_seenLo a_seenHi a_seenZ a_jumped a_stayed a_memory a_isThere a_area a_value := by
  have go : (((2 ≤ x1.toInt ∧ x1.toInt ≤ 11) ∨ (22 ≤ x1.toInt ∧ x1.toInt ≤ 28)) → (0 ≤ x3.toInt ∧ x3.toInt ≤ 5) ∨ (x3.toInt = -1 ∧ 0 ≤ x4.toInt ∧ x4.toInt ≤ 65535)) → wX_isAsSaid_87 post x1 x2 x3 x4 x5 x6 f_count f_conditions f_ways f_isVerified f_wrong f_wrongAt f_size f_ranCount f_ranLast a_opOf a_dOf a_sOf a_nOf a_toOf a_kind a_lo a_hi a_z a_step a_origin a_reach a_wayAt a_seenKind a_seenLo a_seenHi a_seenZ a_jumped a_stayed a_memory a_isThere a_area a_value := fun q => qa_x87 post x1 x2 x3 x4 x5 x6 f_count f_conditions f_ways f_isVerified f_wrong f_wrongAt f_size f_ranCount f_ranLast a_opOf a_dOf a_sOf a_nOf a_toOf a_kind a_lo a_hi a_z a_step a_origin a_reach a_wayAt a_seenKind a_seenLo a_seenHi a_seenZ a_jumped a_stayed a_memory a_isThere a_area a_value hc h6 (fun k => h1 ⟨q, k⟩) (fun nk => h0 (fun z => nk z.2))
  unfold wX_isAsSaid_54
  refine qa_xtakes _ x1 (fun t => br_f (by decide) (qa_xreg _ x3 (fun r => br_f (by decide) (go (fun _ => Or.inl r))) (fun r => br_t rfl (br_c (fun h => br_c (fun h' => h0 (fun z => ?_)) (fun h' => br_c (fun h'' => go (fun _ => Or.inr ?_)) (fun h'' => h0 (fun z => ?_)))) (fun h => h0 (fun z => ?_)))))) (fun t => br_t rfl (go (fun q => absurd q t)))
  · rcases z.1 t with e | e
    · exact r e
    · simp only [qa_lt, qa_le, qa_eq, qa_l0, qa_l1, qa_l2, qa_l3, qa_l5, qa_l6, qa_l11, qa_l12, qa_l15, qa_l16, qa_l17, qa_l18, qa_l20, qa_l21, qa_l22, qa_l28, qa_l29, qa_l31, qa_l32, qa_l255, qa_l65535, qa_lm1] at h'
      omega
  · simp only [qa_lt, qa_le, qa_eq, qa_l0, qa_l1, qa_l2, qa_l3, qa_l5, qa_l6, qa_l11, qa_l12, qa_l15, qa_l16, qa_l17, qa_l18, qa_l20, qa_l21, qa_l22, qa_l28, qa_l29, qa_l31, qa_l32, qa_l255, qa_l65535, qa_lm1] at h h' h''
    omega
  · rcases z.1 t with e | e
    · exact r e
    · simp only [qa_lt, qa_le, qa_eq, qa_l0, qa_l1, qa_l2, qa_l3, qa_l5, qa_l6, qa_l11, qa_l12, qa_l15, qa_l16, qa_l17, qa_l18, qa_l20, qa_l21, qa_l22, qa_l28, qa_l29, qa_l31, qa_l32, qa_l255, qa_l65535, qa_lm1] at h''
      omega
  · rcases z.1 t with e | e
    · exact r e
    · simp only [qa_lt, qa_le, qa_eq, qa_l0, qa_l1, qa_l2, qa_l3, qa_l5, qa_l6, qa_l11, qa_l12, qa_l15, qa_l16, qa_l17, qa_l18, qa_l20, qa_l21, qa_l22, qa_l28, qa_l29, qa_l31, qa_l32, qa_l255, qa_l65535, qa_lm1] at h
      omega
theorem qa_x38 (post : Int32 → Prop) (x1 x2 x3 x4 x5 x6 : Int32) (f_count f_conditions f_ways f_isVerified f_wrong f_wrongAt f_size f_ranCount f_ranLast : Int32) (a_opOf a_dOf a_sOf a_nOf a_toOf a_kind a_lo a_hi a_z a_step a_origin a_reach a_wayAt a_seenKind a_seenLo a_seenHi a_seenZ a_jumped a_stayed a_memory a_isThere a_area a_value : Nat → Int32) (hc : f_count = 0) (h6 : (22 ≤ x1.toInt ∧ x1.toInt ≤ 28 ∧ x6 = 1) ∨ (¬ (22 ≤ x1.toInt ∧ x1.toInt ≤ 28) ∧ x6 = 0)) (h1 : qa_K5 x1.toInt x2.toInt x3.toInt x4.toInt x5.toInt → post 1) (h0 : ¬ qa_K5 x1.toInt x2.toInt x3.toInt x4.toInt x5.toInt → post 0) : wX_isAsSaid_38 post x1 x2 x3 x4 x5 x6 f_count f_conditions f_ways f_isVerified f_wrong f_wrongAt f_size f_ranCount f_ranLast a_opOf a_dOf a_sOf a_nOf a_toOf a_kind a_lo a_hi a_z a_step a_origin a_reach a_wayAt a_seenKind a_seenLo a_seenHi a_seenZ a_jumped a_stayed a_memory a_isThere a_area a_value := by
  have go : ((x1.toInt = 1 ∨ (12 ≤ x1.toInt ∧ x1.toInt ≤ 15)) → 0 ≤ x3.toInt ∧ x3.toInt ≤ 5) → wX_isAsSaid_54 post x1 x2 x3 x4 x5 x6 f_count f_conditions f_ways f_isVerified f_wrong f_wrongAt f_size f_ranCount f_ranLast a_opOf a_dOf a_sOf a_nOf a_toOf a_kind a_lo a_hi a_z a_step a_origin a_reach a_wayAt a_seenKind a_seenLo a_seenHi a_seenZ a_jumped a_stayed a_memory a_isThere a_area a_value := fun q => qa_x54 post x1 x2 x3 x4 x5 x6 f_count f_conditions f_ways f_isVerified f_wrong f_wrongAt f_size f_ranCount f_ranLast a_opOf a_dOf a_sOf a_nOf a_toOf a_kind a_lo a_hi a_z a_step a_origin a_reach a_wayAt a_seenKind a_seenLo a_seenHi a_seenZ a_jumped a_stayed a_memory a_isThere a_area a_value hc h6 (fun k => h1 ⟨q, k⟩) (fun nk => h0 (fun z => nk z.2))
  unfold wX_isAsSaid_38
  exact qa_xneed _ x1 (fun t => br_f (by decide) (qa_xreg _ x3 (fun r => br_f (by decide) (go (fun _ => r))) (fun r => br_t rfl (h0 (fun z => r (z.1 t)))))) (fun t => br_t rfl (go (fun q => absurd q t)))
theorem qa_x29 (post : Int32 → Prop) (x1 x2 x3 x4 x5 x6 : Int32) (f_count f_conditions f_ways f_isVerified f_wrong f_wrongAt f_size f_ranCount f_ranLast : Int32) (a_opOf a_dOf a_sOf a_nOf a_toOf a_kind a_lo a_hi a_z a_step a_origin a_reach a_wayAt a_seenKind a_seenLo a_seenHi a_seenZ a_jumped a_stayed a_memory a_isThere a_area a_value : Nat → Int32) (hc : f_count = 0) (h6 : (22 ≤ x1.toInt ∧ x1.toInt ≤ 28 ∧ x6 = 1) ∨ (¬ (22 ≤ x1.toInt ∧ x1.toInt ≤ 28) ∧ x6 = 0)) (h1 : qa_K6 x1.toInt x2.toInt x3.toInt x4.toInt x5.toInt → post 1) (h0 : ¬ qa_K6 x1.toInt x2.toInt x3.toInt x4.toInt x5.toInt → post 0) (ht : x1.toInt ≤ 17 ∨ (22 ≤ x1.toInt ∧ x1.toInt ≤ 28)) : wX_isAsSaid_29 post x1 x2 x3 x4 x5 x6 f_count f_conditions f_ways f_isVerified f_wrong f_wrongAt f_size f_ranCount f_ranLast a_opOf a_dOf a_sOf a_nOf a_toOf a_kind a_lo a_hi a_z a_step a_origin a_reach a_wayAt a_seenKind a_seenLo a_seenHi a_seenZ a_jumped a_stayed a_memory a_isThere a_area a_value := by
  unfold wX_isAsSaid_29
  exact qa_xreg _ x2 (fun r => br_f (by decide) (qa_x38 post x1 x2 x3 x4 x5 x6 f_count f_conditions f_ways f_isVerified f_wrong f_wrongAt f_size f_ranCount f_ranLast a_opOf a_dOf a_sOf a_nOf a_toOf a_kind a_lo a_hi a_z a_step a_origin a_reach a_wayAt a_seenKind a_seenLo a_seenHi a_seenZ a_jumped a_stayed a_memory a_isThere a_area a_value hc h6 (fun k => h1 ⟨fun _ => r, k⟩) (fun nk => h0 (fun z => nk z.2)))) (fun r => br_t rfl (h0 (fun z => r (z.1 ht))))
theorem qa_xsaid (post : Int32 → Prop) (f_count f_conditions f_ways f_isVerified f_wrong f_wrongAt f_size f_ranCount f_ranLast : Int32) (a_opOf a_dOf a_sOf a_nOf a_toOf a_kind a_lo a_hi a_z a_step a_origin a_reach a_wayAt a_seenKind a_seenLo a_seenHi a_seenZ a_jumped a_stayed a_memory a_isThere a_area a_value : Nat → Int32) (x1 x2 x3 x4 x5 : Int32) (hc : f_count = 0) (h1 : qa_K7 x1.toInt x2.toInt x3.toInt x4.toInt x5.toInt → post 1) (h0 : ¬ qa_K7 x1.toInt x2.toInt x3.toInt x4.toInt x5.toInt → post 0) : wpX_isAsSaid post (f_count, f_conditions, f_ways, f_isVerified, f_wrong, f_wrongAt, f_size, f_ranCount, f_ranLast, a_opOf, a_dOf, a_sOf, a_nOf, a_toOf, a_kind, a_lo, a_hi, a_z, a_step, a_origin, a_reach, a_wayAt, a_seenKind, a_seenLo, a_seenHi, a_seenZ, a_jumped, a_stayed, a_memory, a_isThere, a_area, a_value) x1 x2 x3 x4 x5 := by
  refine br_c (fun h => h0 (fun z => ?_)) (fun h => br_c (fun h' => ?_) (fun h' => h0 (fun z => ?_)))
  · have := z.1
    simp only [qa_lt, qa_le, qa_eq, qa_l0, qa_l1, qa_l2, qa_l3, qa_l5, qa_l6, qa_l11, qa_l12, qa_l15, qa_l16, qa_l17, qa_l18, qa_l20, qa_l21, qa_l22, qa_l28, qa_l29, qa_l31, qa_l32, qa_l255, qa_l65535, qa_lm1] at h
    omega
  · have hr : 0 ≤ x1.toInt ∧ x1.toInt ≤ 29 := by
      simp only [qa_lt, qa_le, qa_eq, qa_l0, qa_l1, qa_l2, qa_l3, qa_l5, qa_l6, qa_l11, qa_l12, qa_l15, qa_l16, qa_l17, qa_l18, qa_l20, qa_l21, qa_l22, qa_l28, qa_l29, qa_l31, qa_l32, qa_l255, qa_l65535, qa_lm1] at h h'
      omega
    have g1 : qa_K6 x1.toInt x2.toInt x3.toInt x4.toInt x5.toInt → post 1 := fun k => h1 ⟨hr, k⟩
    have g0 : ¬ qa_K6 x1.toInt x2.toInt x3.toInt x4.toInt x5.toInt → post 0 := fun nk => h0 (fun z => nk z.2)
    refine qa_xcond _ x1 (fun c => br_c (fun h3 => ?_) (fun h3 => br_f (by decide) ?_)) (fun c => br_c (fun h3 => ?_) (fun h3 => br_t rfl ?_))
    · exact qa_x29 post x1 x2 x3 x4 x5 1 f_count f_conditions f_ways f_isVerified f_wrong f_wrongAt f_size f_ranCount f_ranLast a_opOf a_dOf a_sOf a_nOf a_toOf a_kind a_lo a_hi a_z a_step a_origin a_reach a_wayAt a_seenKind a_seenLo a_seenHi a_seenZ a_jumped a_stayed a_memory a_isThere a_area a_value hc (Or.inl ⟨c.1, c.2, rfl⟩) g1 g0 (Or.inr c)
    · exact qa_x29 post x1 x2 x3 x4 x5 1 f_count f_conditions f_ways f_isVerified f_wrong f_wrongAt f_size f_ranCount f_ranLast a_opOf a_dOf a_sOf a_nOf a_toOf a_kind a_lo a_hi a_z a_step a_origin a_reach a_wayAt a_seenKind a_seenLo a_seenHi a_seenZ a_jumped a_stayed a_memory a_isThere a_area a_value hc (Or.inl ⟨c.1, c.2, rfl⟩) g1 g0 (Or.inr c)
    · refine qa_x29 post x1 x2 x3 x4 x5 0 f_count f_conditions f_ways f_isVerified f_wrong f_wrongAt f_size f_ranCount f_ranLast a_opOf a_dOf a_sOf a_nOf a_toOf a_kind a_lo a_hi a_z a_step a_origin a_reach a_wayAt a_seenKind a_seenLo a_seenHi a_seenZ a_jumped a_stayed a_memory a_isThere a_area a_value hc (Or.inr ⟨c, rfl⟩) g1 g0 (Or.inl ?_)
      simp only [qa_lt, qa_le, qa_eq, qa_l0, qa_l1, qa_l2, qa_l3, qa_l5, qa_l6, qa_l11, qa_l12, qa_l15, qa_l16, qa_l17, qa_l18, qa_l20, qa_l21, qa_l22, qa_l28, qa_l29, qa_l31, qa_l32, qa_l255, qa_l65535, qa_lm1] at h3
      exact h3
    · refine qa_x38 post x1 x2 x3 x4 x5 0 f_count f_conditions f_ways f_isVerified f_wrong f_wrongAt f_size f_ranCount f_ranLast a_opOf a_dOf a_sOf a_nOf a_toOf a_kind a_lo a_hi a_z a_step a_origin a_reach a_wayAt a_seenKind a_seenLo a_seenHi a_seenZ a_jumped a_stayed a_memory a_isThere a_area a_value hc (Or.inr ⟨c, rfl⟩) (fun k => g1 ⟨fun q => ?_, k⟩) (fun nk => g0 (fun z => nk z.2))
      simp only [qa_lt, qa_le, qa_eq, qa_l0, qa_l1, qa_l2, qa_l3, qa_l5, qa_l6, qa_l11, qa_l12, qa_l15, qa_l16, qa_l17, qa_l18, qa_l20, qa_l21, qa_l22, qa_l28, qa_l29, qa_l31, qa_l32, qa_l255, qa_l65535, qa_lm1] at h3
      omega
  · have := z.1
    simp only [qa_lt, qa_le, qa_eq, qa_l0, qa_l1, qa_l2, qa_l3, qa_l5, qa_l6, qa_l11, qa_l12, qa_l15, qa_l16, qa_l17, qa_l18, qa_l20, qa_l21, qa_l22, qa_l28, qa_l29, qa_l31, qa_l32, qa_l255, qa_l65535, qa_lm1] at h'
    omega
theorem qa_x114 (post : Int32 → SX → Prop) (f_count f_conditions f_ways f_isVerified f_wrong f_wrongAt f_size f_ranCount f_ranLast : Int32) (a_opOf a_dOf a_sOf a_nOf a_toOf a_kind a_lo a_hi a_z a_step a_origin a_reach a_wayAt a_seenKind a_seenLo a_seenHi a_seenZ a_jumped a_stayed a_memory a_isThere a_area a_value : Nat → Int32) (hc : f_count = 0) (H : ∀ u' : SX, post 0 u') : wX_code_114 post f_count f_conditions f_ways f_isVerified f_wrong f_wrongAt f_size f_ranCount f_ranLast a_opOf a_dOf a_sOf a_nOf a_toOf a_kind a_lo a_hi a_z a_step a_origin a_reach a_wayAt a_seenKind a_seenLo a_seenHi a_seenZ a_jumped a_stayed a_memory a_isThere a_area a_value := by
  intro f ef
  have e : f - 1 = 0 := by rw [ef, hc] <;> decide
  rw [e]
  exact H _
theorem qa_x47 (post : Int32 → SX → Prop) (x1 x2 x3 x4 x5 x6 : Int32) (f_count f_conditions f_ways f_isVerified f_wrong f_wrongAt f_size f_ranCount f_ranLast : Int32) (a_opOf a_dOf a_sOf a_nOf a_toOf a_kind a_lo a_hi a_z a_step a_origin a_reach a_wayAt a_seenKind a_seenLo a_seenHi a_seenZ a_jumped a_stayed a_memory a_isThere a_area a_value : Nat → Int32) (hc : f_count = 0) (H : ∀ u' : SX, post 0 u') : wX_code_47 post x1 x2 x3 x4 x5 x6 f_count f_conditions f_ways f_isVerified f_wrong f_wrongAt f_size f_ranCount f_ranLast a_opOf a_dOf a_sOf a_nOf a_toOf a_kind a_lo a_hi a_z a_step a_origin a_reach a_wayAt a_seenKind a_seenLo a_seenHi a_seenZ a_jumped a_stayed a_memory a_isThere a_area a_value := by
  have hi : vp_in f_count 32 := by rw [hc]; exact vp_in_iff.mpr (by decide)
  exact And.intro hi fun b1 _ => And.intro hi fun b2 _ => And.intro hi fun b3 _ => And.intro hi fun b4 _ => And.intro hi fun b5 _ => br_c (fun _ => qa_x114 post _ _ _ _ _ _ _ _ _ _ _ _ _ _ _ _ _ _ _ _ _ _ _ _ _ _ _ _ _ _ _ _ hc H) (fun _ c _ => qa_x114 post _ _ _ _ _ _ _ _ _ _ _ _ _ _ _ _ _ _ _ _ _ _ _ _ _ _ _ _ _ _ _ _ hc H)
theorem qa_xcode (post : Int32 → SX → Prop) (f_count f_conditions f_ways f_isVerified f_wrong f_wrongAt f_size f_ranCount f_ranLast : Int32) (a_opOf a_dOf a_sOf a_nOf a_toOf a_kind a_lo a_hi a_z a_step a_origin a_reach a_wayAt a_seenKind a_seenLo a_seenHi a_seenZ a_jumped a_stayed a_memory a_isThere a_area a_value : Nat → Int32) (x1 x2 x3 x4 x5 : Int32) (hc : f_count = 0) (hd : f_conditions = 0) (h1 : qa_K7 x1.toInt x2.toInt x3.toInt x4.toInt x5.toInt → ∀ u' : SX, post 0 u') (h0 : ¬ qa_K7 x1.toInt x2.toInt x3.toInt x4.toInt x5.toInt → ∀ u' : SX, post (-1) u') : wpX_code post (f_count, f_conditions, f_ways, f_isVerified, f_wrong, f_wrongAt, f_size, f_ranCount, f_ranLast, a_opOf, a_dOf, a_sOf, a_nOf, a_toOf, a_kind, a_lo, a_hi, a_z, a_step, a_origin, a_reach, a_wayAt, a_seenKind, a_seenLo, a_seenHi, a_seenZ, a_jumped, a_stayed, a_memory, a_isThere, a_area, a_value) x1 x2 x3 x4 x5 := by
  have n32 : ¬ f_count = 32 := by rw [hc] <;> decide
  have n5 : ¬ f_conditions = 5 := by rw [hd] <;> decide
  unfold wpX_code
  refine qa_xsaid _ f_count f_conditions f_ways f_isVerified f_wrong f_wrongAt f_size f_ranCount f_ranLast a_opOf a_dOf a_sOf a_nOf a_toOf a_kind a_lo a_hi a_z a_step a_origin a_reach a_wayAt a_seenKind a_seenLo a_seenHi a_seenZ a_jumped a_stayed a_memory a_isThere a_area a_value x1 x2 x3 x4 x5 hc (fun k => br_f (by decide) ?_) (fun nk => br_t rfl (h0 nk _))
  exact qa_xcond _ x1 (fun _ => br_f n32 (br_f (by decide) (br_f n5 (qa_x47 post _ _ _ _ _ _ f_count f_conditions f_ways f_isVerified f_wrong f_wrongAt f_size f_ranCount f_ranLast a_opOf a_dOf a_sOf a_nOf a_toOf a_kind a_lo a_hi a_z a_step a_origin a_reach a_wayAt a_seenKind a_seenLo a_seenHi a_seenZ a_jumped a_stayed a_memory a_isThere a_area a_value hc (h1 k))))) (fun _ => br_f n32 (br_t rfl (qa_x47 post _ _ _ _ _ _ f_count f_conditions f_ways f_isVerified f_wrong f_wrongAt f_size f_ranCount f_ranLast a_opOf a_dOf a_sOf a_nOf a_toOf a_kind a_lo a_hi a_z a_step a_origin a_reach a_wayAt a_seenKind a_seenLo a_seenHi a_seenZ a_jumped a_stayed a_memory a_isThere a_area a_value hc (h1 k))))
end
section
theorem qa_yin (post : Int32 → Prop) (x a b : Int32) (h1 : a.toInt ≤ x.toInt ∧ x.toInt ≤ b.toInt → post 1) (h0 : ¬ (a.toInt ≤ x.toInt ∧ x.toInt ≤ b.toInt) → post 0) : wpY_in post x a b := by
  refine br_c (fun h => h0 ?_) (fun h => br_c (fun h' => h0 ?_) (fun h' => h1 ?_)) <;> simp only [qa_lt] at * <;> omega
theorem qa_ycond (post : Int32 → Prop) (o : Int32) (h1 : 22 ≤ o.toInt ∧ o.toInt ≤ 28 → post 1) (h0 : ¬ (22 ≤ o.toInt ∧ o.toInt ≤ 28) → post 0) : wpY_isCondition post o := by
  refine br_c (fun h => h0 ?_) (fun h => br_c (fun h' => h0 ?_) (fun h' => h1 ?_)) <;> simp only [qa_lt, qa_le, qa_eq, qa_l0, qa_l1, qa_l2, qa_l3, qa_l5, qa_l6, qa_l11, qa_l12, qa_l15, qa_l16, qa_l17, qa_l18, qa_l20, qa_l21, qa_l22, qa_l28, qa_l29, qa_l31, qa_l32, qa_l255, qa_l65535, qa_lm1] at * <;> omega
theorem qa_ytakes (post : Int32 → Prop) (o : Int32) (h1 : ((2 ≤ o.toInt ∧ o.toInt ≤ 11) ∨ (22 ≤ o.toInt ∧ o.toInt ≤ 28)) → post 1) (h0 : ¬ ((2 ≤ o.toInt ∧ o.toInt ≤ 11) ∨ (22 ≤ o.toInt ∧ o.toInt ≤ 28)) → post 0) : wpY_takesX post o := by
  have g : ¬ (2 ≤ o.toInt ∧ o.toInt ≤ 11) → wY_takesX_11 post o := fun q => by
    unfold wY_takesX_11
    exact qa_ycond _ o (fun c => br_f (by decide) (h1 (Or.inr c))) (fun c => br_t rfl (h0 (fun z => z.elim q c)))
  refine br_c (fun h => g ?_) (fun h => br_c (fun h' => h1 (Or.inl ?_)) (fun h' => g ?_))
  · simp only [qa_lt, qa_le, qa_eq, qa_l0, qa_l1, qa_l2, qa_l3, qa_l5, qa_l6, qa_l11, qa_l12, qa_l15, qa_l16, qa_l17, qa_l18, qa_l20, qa_l21, qa_l22, qa_l28, qa_l29, qa_l31, qa_l32, qa_l255, qa_l65535, qa_lm1] at h
    omega
  · simp only [qa_lt, qa_le, qa_eq, qa_l0, qa_l1, qa_l2, qa_l3, qa_l5, qa_l6, qa_l11, qa_l12, qa_l15, qa_l16, qa_l17, qa_l18, qa_l20, qa_l21, qa_l22, qa_l28, qa_l29, qa_l31, qa_l32, qa_l255, qa_l65535, qa_lm1] at h h'
    omega
  · simp only [qa_lt, qa_le, qa_eq, qa_l0, qa_l1, qa_l2, qa_l3, qa_l5, qa_l6, qa_l11, qa_l12, qa_l15, qa_l16, qa_l17, qa_l18, qa_l20, qa_l21, qa_l22, qa_l28, qa_l29, qa_l31, qa_l32, qa_l255, qa_l65535, qa_lm1] at h'
    omega
def qa_L1 (o d s : Int) : Prop := 22 ≤ o ∧ o ≤ 28 → ¬ s = d
def qa_L2 (o d s t : Int) : Prop := (21 ≤ o ∧ o ≤ 28 → 1 ≤ t ∧ t ≤ 31) ∧ qa_L1 o d s
def qa_L3 (o d s n t : Int) : Prop := (16 ≤ o ∧ o ≤ 17 → 0 ≤ n ∧ n ≤ 3) ∧ qa_L2 o d s t
def qa_L4 (o d s n t : Int) : Prop := (12 ≤ o ∧ o ≤ 15 → 0 ≤ n ∧ n ≤ 255) ∧ qa_L3 o d s n t
def qa_L5 (o d s n t : Int) : Prop := (o = 0 → 0 ≤ n ∧ n ≤ 65535) ∧ qa_L4 o d s n t
def qa_L6 (o d s n t : Int) : Prop := ((1 ≤ o ∧ o ≤ 15) ∨ (22 ≤ o ∧ o ≤ 28) → (0 ≤ s ∧ s ≤ 5) ∨ (((2 ≤ o ∧ o ≤ 11) ∨ (22 ≤ o ∧ o ≤ 28)) ∧ s = -1 ∧ 0 ≤ n ∧ n ≤ 65535)) ∧ qa_L5 o d s n t
def qa_L7 (o d s n t : Int) : Prop := (o ≤ 17 ∨ (22 ≤ o ∧ o ≤ 28) → 0 ≤ d ∧ d ≤ 5) ∧ qa_L6 o d s n t
def qa_L8 (o d s n t : Int) : Prop := (0 ≤ o ∧ o ≤ 29) ∧ qa_L7 o d s n t
theorem qa_y202 (post : Int32 → Prop) (x1 x2 x3 : Int32) (f_count f_verified f_wrongAt f_wrong f_size f_done f_last : Int32) (a_ops a_ds a_ss a_ns a_tos a_kind a_lo a_hi a_zeros a_step a_origin a_reach a_kinds a_least a_greatest a_fewest a_jumps a_falls a_bytes a_cells a_there a_sort a_value a_which : Nat → Int32) (h1 : qa_L1 x1.toInt x2.toInt x3.toInt → post 1) (h0 : ¬ qa_L1 x1.toInt x2.toInt x3.toInt → post 0) : wY_isGood_202 post x1 x2 x3 f_count f_verified f_wrongAt f_wrong f_size f_done f_last a_ops a_ds a_ss a_ns a_tos a_kind a_lo a_hi a_zeros a_step a_origin a_reach a_kinds a_least a_greatest a_fewest a_jumps a_falls a_bytes a_cells a_there a_sort a_value a_which := by
  unfold wY_isGood_202
  exact qa_ycond _ x1 (fun c => br_f (by decide) (br_c (fun h => h0 (fun z => z c (by rw [h]))) (fun h => h1 (fun _ e => h (Int32.toInt_inj.mp e))))) (fun c => br_t rfl (h1 (fun z => absurd z c)))
theorem qa_y172 (post : Int32 → Prop) (x1 x2 x3 x5 : Int32) (f_count f_verified f_wrongAt f_wrong f_size f_done f_last : Int32) (a_ops a_ds a_ss a_ns a_tos a_kind a_lo a_hi a_zeros a_step a_origin a_reach a_kinds a_least a_greatest a_fewest a_jumps a_falls a_bytes a_cells a_there a_sort a_value a_which : Nat → Int32) (hc : f_count = 0) (h1 : qa_L2 x1.toInt x2.toInt x3.toInt x5.toInt → post 1) (h0 : ¬ qa_L2 x1.toInt x2.toInt x3.toInt x5.toInt → post 0) : wY_isGood_172 post x1 x2 x3 x5 f_count f_verified f_wrongAt f_wrong f_size f_done f_last a_ops a_ds a_ss a_ns a_tos a_kind a_lo a_hi a_zeros a_step a_origin a_reach a_kinds a_least a_greatest a_fewest a_jumps a_falls a_bytes a_cells a_there a_sort a_value a_which := by
  subst hc
  have go : (21 ≤ x1.toInt ∧ x1.toInt ≤ 28 → 1 ≤ x5.toInt ∧ x5.toInt ≤ 31) → wY_isGood_202 post x1 x2 x3 0 f_verified f_wrongAt f_wrong f_size f_done f_last a_ops a_ds a_ss a_ns a_tos a_kind a_lo a_hi a_zeros a_step a_origin a_reach a_kinds a_least a_greatest a_fewest a_jumps a_falls a_bytes a_cells a_there a_sort a_value a_which := fun q => qa_y202 post x1 x2 x3 _ _ _ _ _ _ _ _ _ _ _ _ _ _ _ _ _ _ _ _ _ _ _ _ _ _ _ _ _ _ _ (fun k => h1 ⟨q, k⟩) (fun nk => h0 (fun z => nk z.2))
  refine br_c (fun h => go ?_) (fun h => br_c (fun h' => go ?_) (fun h' => br_c (fun h2 => h0 (fun z => ?_)) (fun h2 => br_c (fun h3 => go ?_) (fun h3 => h0 (fun z => ?_)))))
  · simp only [qa_lt, qa_le, qa_eq, qa_l0, qa_l1, qa_l2, qa_l3, qa_l5, qa_l6, qa_l11, qa_l12, qa_l15, qa_l16, qa_l17, qa_l18, qa_l20, qa_l21, qa_l22, qa_l28, qa_l29, qa_l31, qa_l32, qa_l255, qa_l65535, qa_lm1] at h
    omega
  · simp only [qa_lt, qa_le, qa_eq, qa_l0, qa_l1, qa_l2, qa_l3, qa_l5, qa_l6, qa_l11, qa_l12, qa_l15, qa_l16, qa_l17, qa_l18, qa_l20, qa_l21, qa_l22, qa_l28, qa_l29, qa_l31, qa_l32, qa_l255, qa_l65535, qa_lm1] at h'
    omega
  · simp only [qa_lt, qa_le, qa_eq, qa_l0, qa_l1, qa_l2, qa_l3, qa_l5, qa_l6, qa_l11, qa_l12, qa_l15, qa_l16, qa_l17, qa_l18, qa_l20, qa_l21, qa_l22, qa_l28, qa_l29, qa_l31, qa_l32, qa_l255, qa_l65535, qa_lm1] at h h' h2
    have := z.1 (by omega)
    omega
  · simp only [qa_lt, qa_le, qa_eq, qa_l0, qa_l1, qa_l2, qa_l3, qa_l5, qa_l6, qa_l11, qa_l12, qa_l15, qa_l16, qa_l17, qa_l18, qa_l20, qa_l21, qa_l22, qa_l28, qa_l29, qa_l31, qa_l32, qa_l255, qa_l65535, qa_lm1] at h2 h3
    omega
  · simp only [qa_lt, qa_le, qa_eq, qa_l0, qa_l1, qa_l2, qa_l3, qa_l5, qa_l6, qa_l11, qa_l12, qa_l15, qa_l16, qa_l17, qa_l18, qa_l20, qa_l21, qa_l22, qa_l28, qa_l29, qa_l31, qa_l32, qa_l255, qa_l65535, qa_lm1] at h h' h3
    have := z.1 (by omega)
    omega
theorem qa_y149 (post : Int32 → Prop) (x1 x2 x3 x4 x5 : Int32) (f_count f_verified f_wrongAt f_wrong f_size f_done f_last : Int32) (a_ops a_ds a_ss a_ns a_tos a_kind a_lo a_hi a_zeros a_step a_origin a_reach a_kinds a_least a_greatest a_fewest a_jumps a_falls a_bytes a_cells a_there a_sort a_value a_which : Nat → Int32) (hc : f_count = 0) (h1 : qa_L3 x1.toInt x2.toInt x3.toInt x4.toInt x5.toInt → post 1) (h0 : ¬ qa_L3 x1.toInt x2.toInt x3.toInt x4.toInt x5.toInt → post 0) : wY_isGood_149 post x1 x2 x3 x4 x5 f_count f_verified f_wrongAt f_wrong f_size f_done f_last a_ops a_ds a_ss a_ns a_tos a_kind a_lo a_hi a_zeros a_step a_origin a_reach a_kinds a_least a_greatest a_fewest a_jumps a_falls a_bytes a_cells a_there a_sort a_value a_which := by
  have go : (16 ≤ x1.toInt ∧ x1.toInt ≤ 17 → 0 ≤ x4.toInt ∧ x4.toInt ≤ 3) → wY_isGood_172 post x1 x2 x3 x5 f_count f_verified f_wrongAt f_wrong f_size f_done f_last a_ops a_ds a_ss a_ns a_tos a_kind a_lo a_hi a_zeros a_step a_origin a_reach a_kinds a_least a_greatest a_fewest a_jumps a_falls a_bytes a_cells a_there a_sort a_value a_which := fun q => qa_y172 post x1 x2 x3 x5 f_count f_verified f_wrongAt f_wrong f_size f_done f_last a_ops a_ds a_ss a_ns a_tos a_kind a_lo a_hi a_zeros a_step a_origin a_reach a_kinds a_least a_greatest a_fewest a_jumps a_falls a_bytes a_cells a_there a_sort a_value a_which hc (fun k => h1 ⟨q, k⟩) (fun nk => h0 (fun z => nk z.2))
  unfold wY_isGood_149
  exact qa_yin _ x1 16 17 (fun c => br_f (by decide) (qa_yin _ x4 0 3 (fun e => br_f (by decide) (go (fun _ => e))) (fun e => br_t rfl (h0 (fun z => e (z.1 c)))))) (fun c => br_t rfl (go (fun q => absurd q c)))
theorem qa_y126 (post : Int32 → Prop) (x1 x2 x3 x4 x5 : Int32) (f_count f_verified f_wrongAt f_wrong f_size f_done f_last : Int32) (a_ops a_ds a_ss a_ns a_tos a_kind a_lo a_hi a_zeros a_step a_origin a_reach a_kinds a_least a_greatest a_fewest a_jumps a_falls a_bytes a_cells a_there a_sort a_value a_which : Nat → Int32) (hc : f_count = 0) (h1 : qa_L4 x1.toInt x2.toInt x3.toInt x4.toInt x5.toInt → post 1) (h0 : ¬ qa_L4 x1.toInt x2.toInt x3.toInt x4.toInt x5.toInt → post 0) : wY_isGood_126 post x1 x2 x3 x4 x5 f_count f_verified f_wrongAt f_wrong f_size f_done f_last a_ops a_ds a_ss a_ns a_tos a_kind a_lo a_hi a_zeros a_step a_origin a_reach a_kinds a_least a_greatest a_fewest a_jumps a_falls a_bytes a_cells a_there a_sort a_value a_which := by
  have go : (12 ≤ x1.toInt ∧ x1.toInt ≤ 15 → 0 ≤ x4.toInt ∧ x4.toInt ≤ 255) → wY_isGood_149 post x1 x2 x3 x4 x5 f_count f_verified f_wrongAt f_wrong f_size f_done f_last a_ops a_ds a_ss a_ns a_tos a_kind a_lo a_hi a_zeros a_step a_origin a_reach a_kinds a_least a_greatest a_fewest a_jumps a_falls a_bytes a_cells a_there a_sort a_value a_which := fun q => qa_y149 post x1 x2 x3 x4 x5 f_count f_verified f_wrongAt f_wrong f_size f_done f_last a_ops a_ds a_ss a_ns a_tos a_kind a_lo a_hi a_zeros a_step a_origin a_reach a_kinds a_least a_greatest a_fewest a_jumps a_falls a_bytes a_cells a_there a_sort a_value a_which hc (fun k => h1 ⟨q, k⟩) (fun nk => h0 (fun z => nk z.2))
  unfold wY_isGood_126
  exact qa_yin _ x1 12 15 (fun c => br_f (by decide) (qa_yin _ x4 0 255 (fun e => br_f (by decide) (go (fun _ => e))) (fun e => br_t rfl (h0 (fun z => e (z.1 c)))))) (fun c => br_t rfl (go (fun q => absurd q c)))
theorem qa_y111 (post : Int32 → Prop) (x1 x2 x3 x4 x5 : Int32) (f_count f_verified f_wrongAt f_wrong f_size f_done f_last : Int32) (a_ops a_ds a_ss a_ns a_tos a_kind a_lo a_hi a_zeros a_step a_origin a_reach a_kinds a_least a_greatest a_fewest a_jumps a_falls a_bytes a_cells a_there a_sort a_value a_which : Nat → Int32) (hc : f_count = 0) (h1 : qa_L5 x1.toInt x2.toInt x3.toInt x4.toInt x5.toInt → post 1) (h0 : ¬ qa_L5 x1.toInt x2.toInt x3.toInt x4.toInt x5.toInt → post 0) : wY_isGood_111 post x1 x2 x3 x4 x5 f_count f_verified f_wrongAt f_wrong f_size f_done f_last a_ops a_ds a_ss a_ns a_tos a_kind a_lo a_hi a_zeros a_step a_origin a_reach a_kinds a_least a_greatest a_fewest a_jumps a_falls a_bytes a_cells a_there a_sort a_value a_which := by
  have go : (x1.toInt = 0 → 0 ≤ x4.toInt ∧ x4.toInt ≤ 65535) → wY_isGood_126 post x1 x2 x3 x4 x5 f_count f_verified f_wrongAt f_wrong f_size f_done f_last a_ops a_ds a_ss a_ns a_tos a_kind a_lo a_hi a_zeros a_step a_origin a_reach a_kinds a_least a_greatest a_fewest a_jumps a_falls a_bytes a_cells a_there a_sort a_value a_which := fun q => qa_y126 post x1 x2 x3 x4 x5 f_count f_verified f_wrongAt f_wrong f_size f_done f_last a_ops a_ds a_ss a_ns a_tos a_kind a_lo a_hi a_zeros a_step a_origin a_reach a_kinds a_least a_greatest a_fewest a_jumps a_falls a_bytes a_cells a_there a_sort a_value a_which hc (fun k => h1 ⟨q, k⟩) (fun nk => h0 (fun z => nk z.2))
  exact br_c (fun h => qa_yin _ x4 0 65535 (fun e => br_f (by decide) (go (fun _ => e))) (fun e => br_t rfl (h0 (fun z => e (z.1 (by rw [h]; rfl)))))) (fun h => go (fun q => absurd (Int32.toInt_inj.mp q) h))
theorem qa_y72 (post : Int32 → Prop) (x1 x2 x3 x4 x5 x7 : Int32) (f_count f_verified f_wrongAt f_wrong f_size f_done f_last : Int32) (a_ops a_ds a_ss a_ns a_tos a_kind a_lo a_hi a_zeros a_step a_origin a_reach a_kinds a_least a_greatest a_fewest a_jumps a_falls a_bytes a_cells a_there a_sort a_value a_which : Nat → Int32) (hc : f_count = 0) (h7 : (((1 ≤ x1.toInt ∧ x1.toInt ≤ 15) ∨ (22 ≤ x1.toInt ∧ x1.toInt ≤ 28)) ∧ x7 = 1) ∨ (¬ ((1 ≤ x1.toInt ∧ x1.toInt ≤ 15) ∨ (22 ≤ x1.toInt ∧ x1.toInt ≤ 28)) ∧ x7 = 0)) (h1 : qa_L6 x1.toInt x2.toInt x3.toInt x4.toInt x5.toInt → post 1) (h0 : ¬ qa_L6 x1.toInt x2.toInt x3.toInt x4.toInt x5.toInt → post 0) : wY_isGood_72 post x1 x2 x3 x4 x5 x7 f_count f_verified f_wrongAt f_wrong f_size f_done f_last a_ops a_ds a_ss a_ns a_tos a_kind a_lo a_hi a_zeros a_step a_origin a_reach a_kinds a_least a_greatest a_fewest a_jumps a_falls a_bytes a_cells a_there a_sort a_value a_which := by
  have go : ((1 ≤ x1.toInt ∧ x1.toInt ≤ 15) ∨ (22 ≤ x1.toInt ∧ x1.toInt ≤ 28) → (0 ≤ x3.toInt ∧ x3.toInt ≤ 5) ∨ (((2 ≤ x1.toInt ∧ x1.toInt ≤ 11) ∨ (22 ≤ x1.toInt ∧ x1.toInt ≤ 28)) ∧ x3.toInt = -1 ∧ 0 ≤ x4.toInt ∧ x4.toInt ≤ 65535)) → wY_isGood_111 post x1 x2 x3 x4 x5 f_count f_verified f_wrongAt f_wrong f_size f_done f_last a_ops a_ds a_ss a_ns a_tos a_kind a_lo a_hi a_zeros a_step a_origin a_reach a_kinds a_least a_greatest a_fewest a_jumps a_falls a_bytes a_cells a_there a_sort a_value a_which := fun q => qa_y111 post x1 x2 x3 x4 x5 f_count f_verified f_wrongAt f_wrong f_size f_done f_last a_ops a_ds a_ss a_ns a_tos a_kind a_lo a_hi a_zeros a_step a_origin a_reach a_kinds a_least a_greatest a_fewest a_jumps a_falls a_bytes a_cells a_there a_sort a_value a_which hc (fun k => h1 ⟨q, k⟩) (fun nk => h0 (fun z => nk z.2))
  rcases h7 with ⟨hu, rfl⟩ | ⟨hu, rfl⟩
  · refine br_f (by decide) (qa_yin _ x3 0 5 (fun r => br_f (by decide) (go (fun _ => Or.inl r))) (fun r => br_t rfl (qa_ytakes _ x1 (fun t => br_f (by decide) (br_c (fun h => qa_yin _ x4 0 65535 (fun e => br_f (by decide) (go (fun _ => Or.inr ⟨t, ?_, e⟩))) (fun e => br_t rfl (h0 (fun z => (z.1 hu).elim r (fun y => e y.2.2))))) (fun h => h0 (fun z => (z.1 hu).elim r (fun y => h (Int32.toInt_inj.mp y.2.1)))))) (fun t => br_t rfl (h0 (fun z => (z.1 hu).elim r (fun y => t y.1)))))))
    rw [h]
    rfl
  · exact br_t rfl (go (fun q => absurd q hu))
theorem qa_y54 (post : Int32 → Prop) (x1 x2 x3 x4 x5 x6 x7 : Int32) (f_count f_verified f_wrongAt f_wrong f_size f_done f_last : Int32) (a_ops a_ds a_ss a_ns a_tos a_kind a_lo a_hi a_zeros a_step a_origin a_reach a_kinds a_least a_greatest a_fewest a_jumps a_falls a_bytes a_cells a_there a_sort a_value a_which : Nat → Int32) (hc : f_count = 0) (h6 : ((x1.toInt ≤ 17 ∨ (22 ≤ x1.toInt ∧ x1.toInt ≤ 28)) ∧ x6 = 1) ∨ (¬ (x1.toInt ≤ 17 ∨ (22 ≤ x1.toInt ∧ x1.toInt ≤ 28)) ∧ x6 = 0)) (h7 : (((1 ≤ x1.toInt ∧ x1.toInt ≤ 15) ∨ (22 ≤ x1.toInt ∧ x1.toInt ≤ 28)) ∧ x7 = 1) ∨ (¬ ((1 ≤ x1.toInt ∧ x1.toInt ≤ 15) ∨ (22 ≤ x1.toInt ∧ x1.toInt ≤ 28)) ∧ x7 = 0)) (h1 : qa_L7 x1.toInt x2.toInt x3.toInt x4.toInt x5.toInt → post 1) (h0 : ¬ qa_L7 x1.toInt x2.toInt x3.toInt x4.toInt x5.toInt → post 0) : wY_isGood_54 post x1 x2 x3 x4 x5 x6 x7 f_count f_verified f_wrongAt f_wrong f_size f_done f_last a_ops a_ds a_ss a_ns a_tos a_kind a_lo a_hi a_zeros a_step a_origin a_reach a_kinds a_least a_greatest a_fewest a_jumps a_falls a_bytes a_cells a_there a_sort a_value a_which := by
  have go : ((x1.toInt ≤ 17 ∨ (22 ≤ x1.toInt ∧ x1.toInt ≤ 28)) → 0 ≤ x2.toInt ∧ x2.toInt ≤ 5) → wY_isGood_72 post x1 x2 x3 x4 x5 x7 f_count f_verified f_wrongAt f_wrong f_size f_done f_last a_ops a_ds a_ss a_ns a_tos a_kind a_lo a_hi a_zeros a_step a_origin a_reach a_kinds a_least a_greatest a_fewest a_jumps a_falls a_bytes a_cells a_there a_sort a_value a_which := fun q => qa_y72 post x1 x2 x3 x4 x5 x7 f_count f_verified f_wrongAt f_wrong f_size f_done f_last a_ops a_ds a_ss a_ns a_tos a_kind a_lo a_hi a_zeros a_step a_origin a_reach a_kinds a_least a_greatest a_fewest a_jumps a_falls a_bytes a_cells a_there a_sort a_value a_which hc h7 (fun k => h1 ⟨q, k⟩) (fun nk => h0 (fun z => nk z.2))
  rcases h6 with ⟨hu, rfl⟩ | ⟨hu, rfl⟩
  · exact br_f (by decide) (qa_yin _ x2 0 5 (fun r => br_f (by decide) (go (fun _ => r))) (fun r => br_t rfl (h0 (fun z => r (z.1 hu)))))
  · exact br_t rfl (go (fun q => absurd q hu))
theorem qa_y30 (post : Int32 → Prop) (x1 x2 x3 x4 x5 x6 : Int32) (f_count f_verified f_wrongAt f_wrong f_size f_done f_last : Int32) (a_ops a_ds a_ss a_ns a_tos a_kind a_lo a_hi a_zeros a_step a_origin a_reach a_kinds a_least a_greatest a_fewest a_jumps a_falls a_bytes a_cells a_there a_sort a_value a_which : Nat → Int32) (hc : f_count = 0) (h6 : ((x1.toInt ≤ 17 ∨ (22 ≤ x1.toInt ∧ x1.toInt ≤ 28)) ∧ x6 = 1) ∨ (¬ (x1.toInt ≤ 17 ∨ (22 ≤ x1.toInt ∧ x1.toInt ≤ 28)) ∧ x6 = 0)) (h1 : qa_L7 x1.toInt x2.toInt x3.toInt x4.toInt x5.toInt → post 1) (h0 : ¬ qa_L7 x1.toInt x2.toInt x3.toInt x4.toInt x5.toInt → post 0) : wY_isGood_30 post x1 x2 x3 x4 x5 x6 f_count f_verified f_wrongAt f_wrong f_size f_done f_last a_ops a_ds a_ss a_ns a_tos a_kind a_lo a_hi a_zeros a_step a_origin a_reach a_kinds a_least a_greatest a_fewest a_jumps a_falls a_bytes a_cells a_there a_sort a_value a_which := by
  have gy : ((1 ≤ x1.toInt ∧ x1.toInt ≤ 15) ∨ (22 ≤ x1.toInt ∧ x1.toInt ≤ 28)) → wY_isGood_49 post x1 x2 x3 x4 x5 x6 f_count f_verified f_wrongAt f_wrong f_size f_done f_last a_ops a_ds a_ss a_ns a_tos a_kind a_lo a_hi a_zeros a_step a_origin a_reach a_kinds a_least a_greatest a_fewest a_jumps a_falls a_bytes a_cells a_there a_sort a_value a_which := fun q => by
    unfold wY_isGood_49
    exact qa_y54 post x1 x2 x3 x4 x5 x6 1 f_count f_verified f_wrongAt f_wrong f_size f_done f_last a_ops a_ds a_ss a_ns a_tos a_kind a_lo a_hi a_zeros a_step a_origin a_reach a_kinds a_least a_greatest a_fewest a_jumps a_falls a_bytes a_cells a_there a_sort a_value a_which hc h6 (Or.inl ⟨q, rfl⟩) h1 h0
  have gn : ¬ (1 ≤ x1.toInt ∧ x1.toInt ≤ 15) → wY_isGood_42 post x1 x2 x3 x4 x5 x6 f_count f_verified f_wrongAt f_wrong f_size f_done f_last a_ops a_ds a_ss a_ns a_tos a_kind a_lo a_hi a_zeros a_step a_origin a_reach a_kinds a_least a_greatest a_fewest a_jumps a_falls a_bytes a_cells a_there a_sort a_value a_which := fun q => by
    unfold wY_isGood_42
    exact qa_ycond _ x1 (fun c => br_f (by decide) (gy (Or.inr c))) (fun c => br_t rfl (qa_y54 post x1 x2 x3 x4 x5 x6 0 f_count f_verified f_wrongAt f_wrong f_size f_done f_last a_ops a_ds a_ss a_ns a_tos a_kind a_lo a_hi a_zeros a_step a_origin a_reach a_kinds a_least a_greatest a_fewest a_jumps a_falls a_bytes a_cells a_there a_sort a_value a_which hc h6 (Or.inr ⟨fun z => z.elim q c, rfl⟩) h1 h0))
  refine br_c (fun h => gn ?_) (fun h => br_c (fun h' => gy (Or.inl ?_)) (fun h' => gn ?_))
  · simp only [qa_lt, qa_le, qa_eq, qa_l0, qa_l1, qa_l2, qa_l3, qa_l5, qa_l6, qa_l11, qa_l12, qa_l15, qa_l16, qa_l17, qa_l18, qa_l20, qa_l21, qa_l22, qa_l28, qa_l29, qa_l31, qa_l32, qa_l255, qa_l65535, qa_lm1] at h
    omega
  · simp only [qa_lt, qa_le, qa_eq, qa_l0, qa_l1, qa_l2, qa_l3, qa_l5, qa_l6, qa_l11, qa_l12, qa_l15, qa_l16, qa_l17, qa_l18, qa_l20, qa_l21, qa_l22, qa_l28, qa_l29, qa_l31, qa_l32, qa_l255, qa_l65535, qa_lm1] at h h'
    omega
  · simp only [qa_lt, qa_le, qa_eq, qa_l0, qa_l1, qa_l2, qa_l3, qa_l5, qa_l6, qa_l11, qa_l12, qa_l15, qa_l16, qa_l17, qa_l18, qa_l20, qa_l21, qa_l22, qa_l28, qa_l29, qa_l31, qa_l32, qa_l255, qa_l65535, qa_lm1] at h'
    omega
theorem qa_ygood (post : Int32 → Prop) (f_count f_verified f_wrongAt f_wrong f_size f_done f_last : Int32) (a_ops a_ds a_ss a_ns a_tos a_kind a_lo a_hi a_zeros a_step a_origin a_reach a_kinds a_least a_greatest a_fewest a_jumps a_falls a_bytes a_cells a_there a_sort a_value a_which : Nat → Int32) (x1 x2 x3 x4 x5 : Int32) (hc : f_count = 0) (h1 : qa_L8 x1.toInt x2.toInt x3.toInt x4.toInt x5.toInt → post 1) (h0 : ¬ qa_L8 x1.toInt x2.toInt x3.toInt x4.toInt x5.toInt → post 0) : wpY_isGood post (f_count, f_verified, f_wrongAt, f_wrong, f_size, f_done, f_last, a_ops, a_ds, a_ss, a_ns, a_tos, a_kind, a_lo, a_hi, a_zeros, a_step, a_origin, a_reach, a_kinds, a_least, a_greatest, a_fewest, a_jumps, a_falls, a_bytes, a_cells, a_there, a_sort, a_value, a_which) x1 x2 x3 x4 x5 := by
  unfold wpY_isGood
  refine qa_yin _ x1 0 29 (fun r => br_f (by decide) ?_) (fun r => br_t rfl (h0 (fun z => r z.1)))
  have g1 : qa_L7 x1.toInt x2.toInt x3.toInt x4.toInt x5.toInt → post 1 := fun k => h1 ⟨r, k⟩
  have g0 : ¬ qa_L7 x1.toInt x2.toInt x3.toInt x4.toInt x5.toInt → post 0 := fun nk => h0 (fun z => nk z.2)
  refine br_c (fun h => ?_) (fun h => qa_ycond _ x1 (fun c => br_f (by decide) ?_) (fun c => br_t rfl ?_))
  · unfold wY_isGood_25
    refine qa_y30 post x1 x2 x3 x4 x5 1 f_count f_verified f_wrongAt f_wrong f_size f_done f_last a_ops a_ds a_ss a_ns a_tos a_kind a_lo a_hi a_zeros a_step a_origin a_reach a_kinds a_least a_greatest a_fewest a_jumps a_falls a_bytes a_cells a_there a_sort a_value a_which hc (Or.inl ⟨Or.inl ?_, rfl⟩) g1 g0
    simp only [qa_lt, qa_le, qa_eq, qa_l0, qa_l1, qa_l2, qa_l3, qa_l5, qa_l6, qa_l11, qa_l12, qa_l15, qa_l16, qa_l17, qa_l18, qa_l20, qa_l21, qa_l22, qa_l28, qa_l29, qa_l31, qa_l32, qa_l255, qa_l65535, qa_lm1] at h
    omega
  · unfold wY_isGood_25
    exact qa_y30 post x1 x2 x3 x4 x5 1 f_count f_verified f_wrongAt f_wrong f_size f_done f_last a_ops a_ds a_ss a_ns a_tos a_kind a_lo a_hi a_zeros a_step a_origin a_reach a_kinds a_least a_greatest a_fewest a_jumps a_falls a_bytes a_cells a_there a_sort a_value a_which hc (Or.inl ⟨Or.inr c, rfl⟩) g1 g0
  · refine qa_y30 post x1 x2 x3 x4 x5 0 f_count f_verified f_wrongAt f_wrong f_size f_done f_last a_ops a_ds a_ss a_ns a_tos a_kind a_lo a_hi a_zeros a_step a_origin a_reach a_kinds a_least a_greatest a_fewest a_jumps a_falls a_bytes a_cells a_there a_sort a_value a_which hc (Or.inr ⟨fun z => z.elim (fun q => ?_) c, rfl⟩) g1 g0
    simp only [qa_lt, qa_le, qa_eq, qa_l0, qa_l1, qa_l2, qa_l3, qa_l5, qa_l6, qa_l11, qa_l12, qa_l15, qa_l16, qa_l17, qa_l18, qa_l20, qa_l21, qa_l22, qa_l28, qa_l29, qa_l31, qa_l32, qa_l255, qa_l65535, qa_lm1] at h
    omega
theorem qa_yc47 (post : Int32 → SY → Prop) (x1 x2 x3 x4 x5 : Int32) (f_count f_verified f_wrongAt f_wrong f_size f_done f_last : Int32) (a_ops a_ds a_ss a_ns a_tos a_kind a_lo a_hi a_zeros a_step a_origin a_reach a_kinds a_least a_greatest a_fewest a_jumps a_falls a_bytes a_cells a_there a_sort a_value a_which : Nat → Int32) (hc : f_count = 0) (H : ∀ v' : SY, post 0 v') : wY_code_47 post x1 x2 x3 x4 x5 f_count f_verified f_wrongAt f_wrong f_size f_done f_last a_ops a_ds a_ss a_ns a_tos a_kind a_lo a_hi a_zeros a_step a_origin a_reach a_kinds a_least a_greatest a_fewest a_jumps a_falls a_bytes a_cells a_there a_sort a_value a_which := by
  have hi : vp_in f_count 32 := by rw [hc]; exact vp_in_iff.mpr (by decide)
  refine And.intro hi fun b1 _ => And.intro hi fun b2 _ => And.intro hi fun b3 _ => And.intro hi fun b4 _ => And.intro hi fun b5 _ => fun f ef => ?_
  have e : f - 1 = 0 := by rw [ef, hc] <;> decide
  rw [e]
  exact H _
theorem qa_ycode (post : Int32 → SY → Prop) (f_count f_verified f_wrongAt f_wrong f_size f_done f_last : Int32) (a_ops a_ds a_ss a_ns a_tos a_kind a_lo a_hi a_zeros a_step a_origin a_reach a_kinds a_least a_greatest a_fewest a_jumps a_falls a_bytes a_cells a_there a_sort a_value a_which : Nat → Int32) (x1 x2 x3 x4 x5 : Int32) (hc : f_count = 0) (h1 : qa_L8 x1.toInt x2.toInt x3.toInt x4.toInt x5.toInt → ∀ v' : SY, post 0 v') (h0 : ¬ qa_L8 x1.toInt x2.toInt x3.toInt x4.toInt x5.toInt → ∀ v' : SY, post (-1) v') : wpY_code post (f_count, f_verified, f_wrongAt, f_wrong, f_size, f_done, f_last, a_ops, a_ds, a_ss, a_ns, a_tos, a_kind, a_lo, a_hi, a_zeros, a_step, a_origin, a_reach, a_kinds, a_least, a_greatest, a_fewest, a_jumps, a_falls, a_bytes, a_cells, a_there, a_sort, a_value, a_which) x1 x2 x3 x4 x5 := by
  have n32 : ¬ f_count = 32 := by rw [hc] <;> decide
  have c0 : f_count ≤ 0 := qa_c0 hc
  unfold wpY_code
  refine qa_ygood _ f_count f_verified f_wrongAt f_wrong f_size f_done f_last a_ops a_ds a_ss a_ns a_tos a_kind a_lo a_hi a_zeros a_step a_origin a_reach a_kinds a_least a_greatest a_fewest a_jumps a_falls a_bytes a_cells a_there a_sort a_value a_which x1 x2 x3 x4 x5 hc (fun k => br_f (by decide) (br_f n32 ?_)) (fun nk => br_t rfl (h0 nk _))
  exact qa_ycond _ x1 (fun _ => br_f (by decide) (Exists.intro 1 (br_t c0 (br_f (by decide) (qa_yc47 post _ _ _ _ _ f_count f_verified f_wrongAt f_wrong f_size f_done f_last a_ops a_ds a_ss a_ns a_tos a_kind a_lo a_hi a_zeros a_step a_origin a_reach a_kinds a_least a_greatest a_fewest a_jumps a_falls a_bytes a_cells a_there a_sort a_value a_which hc (h1 k)))))) (fun _ => br_t rfl (qa_yc47 post _ _ _ _ _ f_count f_verified f_wrongAt f_wrong f_size f_done f_last a_ops a_ds a_ss a_ns a_tos a_kind a_lo a_hi a_zeros a_step a_origin a_reach a_kinds a_least a_greatest a_fewest a_jumps a_falls a_bytes a_cells a_there a_sort a_value a_which hc (h1 k)))
theorem qa_KL (o d s n t : Int) : qa_K7 o d s n t → qa_L8 o d s n t := fun ⟨a7, a6, a5, a4, a3, a2, a1, a0, am⟩ =>
  ⟨a7, a6, by omega, a1, a0, by omega, a2, a3⟩
theorem qa_LK (o d s n t : Int) : qa_L8 o d s n t → qa_K7 o d s n t := fun ⟨a7, a6, b6, b5, b4, b3, b2, b1⟩ =>
  ⟨a7, a6, by omega, by omega, b1, b2, b5, b4, by omega⟩
theorem i_vc_code {k : Nat} {u : SX} {v : SY} (I : i_Rel k u v) (hk : k + 6 ≤ 6) (v1 : Int32) (v2 : Int32) (v3 : Int32) (v4 : Int32) (v5 : Int32) : wpX_code (fun r u' => wpY_code (fun r' v' => r' = r ∧ i_Rel (k + 6) u' v') v v1 v2 v3 v4 v5) u v1 v2 v3 v4 v5 := by
  obtain ⟨hu, hv⟩ := qa_k I hk
  subst hu hv
  exact qa_xcode _ _ _ _ _ _ _ _ _ _ _ _ _ _ _ _ _ _ _ _ _ _ _ _ _ _ _ _ _ _ _ _ _ v1 v2 v3 v4 v5 rfl rfl (fun a _ => qa_ycode _ _ _ _ _ _ _ _ _ _ _ _ _ _ _ _ _ _ _ _ _ _ _ _ _ _ _ _ _ _ _ _ v1 v2 v3 v4 v5 rfl (fun _ _ => ⟨rfl, qa_tail⟩) (fun b => absurd (qa_KL _ _ _ _ _ a) b)) (fun a _ => qa_ycode _ _ _ _ _ _ _ _ _ _ _ _ _ _ _ _ _ _ _ _ _ _ _ _ _ _ _ _ _ _ _ _ v1 v2 v3 v4 v5 rfl (fun b => absurd (qa_LK _ _ _ _ _ b) a) (fun _ _ => ⟨rfl, qa_tail⟩))
end
