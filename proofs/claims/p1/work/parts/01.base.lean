/-- one call alone: at the first turn both objects are as they were made; behind it nothing is asked -/
def i_Rel (k : Nat) (u : SX) (v : SY) : Prop := k = 0 → u = (0, 0, 0, 0, 0, (-1), 0, (-1), (-1), (fun _ => 0), (fun _ => 0), (fun _ => 0), (fun _ => 0), (fun _ => 0), (fun _ => 0), (fun _ => 0), (fun _ => 0), (fun _ => 0), (fun _ => 0), (fun _ => 0), (fun _ => 0), (fun _ => 0), (fun _ => 0), (fun _ => 0), (fun _ => 0), (fun _ => 0), (fun _ => 0), (fun _ => 0), (fun _ => 0), (fun _ => 0), (fun _ => 0), (fun _ => 0)) ∧ v = (0, 0, 0, 0, 0, 0, (-1), (fun _ => 0), (fun _ => 0), (fun _ => 0), (fun _ => 0), (fun _ => 0), (fun _ => 0), (fun _ => 0), (fun _ => 0), (fun _ => 0), (fun _ => 0), (fun _ => 0), (fun _ => 0), (fun _ => 0), (fun _ => 0), (fun _ => 0), (fun _ => 0), (fun _ => 0), (fun _ => 0), (fun _ => 0), (fun _ => 0), (fun _ => 0), (fun _ => 0), (fun _ => 0), (fun _ => 0))
theorem i_up {k : Nat} {u : SX} {v : SY} (h : i_Rel k u v) : i_Rel (k + 6) u v := fun z => absurd z (by omega)
theorem i_vc0 : wpX_init (fun u => wpY_init (fun v => i_Rel 0 u v)) := by
  unfold wpX_init wpY_init
  exact fun _ => ⟨rfl, rfl⟩
theorem qa_tail {k : Nat} {u : SX} {v : SY} : i_Rel (k + 6) u v := fun z => absurd z (by omega)
theorem qa_k {k : Nat} {u : SX} {v : SY} (I : i_Rel k u v) (hk : k + 6 ≤ 6) : u = (0, 0, 0, 0, 0, (-1), 0, (-1), (-1), (fun _ => 0), (fun _ => 0), (fun _ => 0), (fun _ => 0), (fun _ => 0), (fun _ => 0), (fun _ => 0), (fun _ => 0), (fun _ => 0), (fun _ => 0), (fun _ => 0), (fun _ => 0), (fun _ => 0), (fun _ => 0), (fun _ => 0), (fun _ => 0), (fun _ => 0), (fun _ => 0), (fun _ => 0), (fun _ => 0), (fun _ => 0), (fun _ => 0), (fun _ => 0)) ∧ v = (0, 0, 0, 0, 0, 0, (-1), (fun _ => 0), (fun _ => 0), (fun _ => 0), (fun _ => 0), (fun _ => 0), (fun _ => 0), (fun _ => 0), (fun _ => 0), (fun _ => 0), (fun _ => 0), (fun _ => 0), (fun _ => 0), (fun _ => 0), (fun _ => 0), (fun _ => 0), (fun _ => 0), (fun _ => 0), (fun _ => 0), (fun _ => 0), (fun _ => 0), (fun _ => 0), (fun _ => 0), (fun _ => 0), (fun _ => 0)) := I (by omega)
theorem qa_c0 {x : Int32} (h : x = 0) : x ≤ 0 := by
  subst h
  decide
theorem qa_ge {b m : Nat} {x : Int32} (hx : x = nI b) (h : b ≤ m) (hm : m < 2 ^ 31) : x ≤ nI m := hx ▸ nI_le h hm
theorem qa_ng {b m : Nat} {x : Int32} (hx : x = nI b) (h : m < b) (hb : b < 2 ^ 31) : ¬ x ≤ nI m := hx ▸ nI_ge h hb
theorem i_vc_wipe {k : Nat} {u : SX} {v : SY} (I : i_Rel k u v) (hk : k + 6 ≤ 6) : wpX_wipe (fun r u' => wpY_wipe (fun r' v' => r' = r ∧ i_Rel (k + 6) u' v') v) u := by
  obtain ⟨hu, hv⟩ := qa_k I hk
  subst hu hv
  exact And.intro rfl qa_tail
theorem i_vc_cut {k : Nat} {u : SX} {v : SY} (I : i_Rel k u v) (hk : k + 6 ≤ 6) : wpX_cut (fun r u' => wpY_cut (fun r' v' => r' = r ∧ i_Rel (k + 6) u' v') v) u := by
  obtain ⟨hu, hv⟩ := qa_k I hk
  subst hu hv
  exact And.intro rfl qa_tail
theorem i_vc_place {k : Nat} {u : SX} {v : SY} (I : i_Rel k u v) (hk : k + 6 ≤ 6) : wpX_place (fun r => wpY_place (fun r' => r' = r ∧ i_Rel (k + 6) u v) v) u := by
  obtain ⟨hu, hv⟩ := qa_k I hk
  subst hu hv
  exact br_t rfl (br_t rfl ⟨rfl, qa_tail⟩)
theorem i_vc_bound {k : Nat} {u : SX} {v : SY} (I : i_Rel k u v) (hk : k + 6 ≤ 6) (v1 : Int32) (v2 : Int32) (v3 : Int32) : wpX_bound (fun r => wpY_bound (fun r' => r' = r ∧ i_Rel (k + 6) u v) v v1 v2 v3) u v1 v2 v3 := by
  obtain ⟨hu, hv⟩ := qa_k I hk
  subst hu hv
  exact br_t rfl (br_t rfl ⟨rfl, qa_tail⟩)
theorem i_vc_decided {k : Nat} {u : SX} {v : SY} (I : i_Rel k u v) (hk : k + 6 ≤ 6) (v1 : Int32) : wpX_decided (fun r => wpY_decided (fun r' => r' = r ∧ i_Rel (k + 6) u v) v v1) u v1 := by
  obtain ⟨hu, hv⟩ := qa_k I hk
  subst hu hv
  exact br_t rfl (br_t rfl ⟨rfl, qa_tail⟩)
theorem i_vc_run {k : Nat} {u : SX} {v : SY} (I : i_Rel k u v) (hk : k + 6 ≤ 6) : wpX_run (fun r u' => wpY_run (fun r' v' => r' = r ∧ i_Rel (k + 6) u' v') v) u := by
  obtain ⟨hu, hv⟩ := qa_k I hk
  subst hu hv
  exact br_t rfl (br_t rfl ⟨rfl, qa_tail⟩)
theorem i_vc_ran {k : Nat} {u : SX} {v : SY} (I : i_Rel k u v) (hk : k + 6 ≤ 6) (v1 : Int32) : wpX_ran (fun r => wpY_ran (fun r' => r' = r ∧ i_Rel (k + 6) u v) v v1) u v1 := by
  obtain ⟨hu, hv⟩ := qa_k I hk
  subst hu hv
  exact br_c (fun _ => br_t (by decide) ⟨rfl, qa_tail⟩) (fun _ => br_c (fun _ => br_t (by decide) ⟨rfl, qa_tail⟩) (fun _ => br_t (by decide) ⟨rfl, qa_tail⟩))
theorem i_vc_put {k : Nat} {u : SX} {v : SY} (I : i_Rel k u v) (hk : k + 6 ≤ 6) (v1 : Int32) : wpX_put (fun r u' => wpY_put (fun r' v' => r' = r ∧ i_Rel (k + 6) u' v') v v1) u v1 := by
  obtain ⟨hu, hv⟩ := qa_k I hk
  subst hu hv
  exact br_f (by decide) ⟨vp_in_iff.mpr (by decide), fun a ea f ef => br_f (by decide) ⟨vp_in_iff.mpr (by decide), fun b eb g eg => ⟨eg.trans ef.symm, qa_tail⟩⟩⟩
theorem qa_m1 {x : Int32} (h : ¬ x < 0) : (0 : Int32) - 1 < x := by
  rw [Int32.lt_iff_toInt_lt] at h ⊢
  have e : ((0 : Int32) - 1).toInt = -1 := by decide
  have z : (0 : Int32).toInt = 0 := by decide
  omega
theorem i_vc_packet {k : Nat} {u : SX} {v : SY} (I : i_Rel k u v) (hk : k + 6 ≤ 6) (v1 : Int32) : wpX_packet (fun r => wpY_packet (fun r' => r' = r ∧ i_Rel (k + 6) u v) v v1) u v1 := by
  obtain ⟨hu, hv⟩ := qa_k I hk
  subst hu hv
  exact br_c (fun h => br_t h (br_t rfl ⟨rfl, qa_tail⟩)) (fun h => br_f h (br_f h (br_t (qa_m1 h) (br_t rfl ⟨rfl, qa_tail⟩))))
theorem qa_78 {x : Int32} (h : 8 ≤ x) : (7 : Int32) < x := by
  rw [Int32.le_iff_toInt_le] at h
  rw [Int32.lt_iff_toInt_lt]
  have e : (8 : Int32).toInt = 8 := by decide
  have z : (7 : Int32).toInt = 7 := by decide
  omega
theorem qa_87 {x : Int32} (h : ¬ 8 ≤ x) : ¬ (7 : Int32) < x := by
  rw [Int32.le_iff_toInt_le] at h
  rw [Int32.lt_iff_toInt_lt]
  have e : (8 : Int32).toInt = 8 := by decide
  have z : (7 : Int32).toInt = 7 := by decide
  omega
theorem qa_in8 {x : Int32} (h0 : ¬ x < 0) (h : ¬ 8 ≤ x) : vp_in x 8 := by
  rw [vp_in_iff]
  rw [Int32.lt_iff_toInt_lt] at h0
  rw [Int32.le_iff_toInt_le] at h
  have e : (8 : Int32).toInt = 8 := by decide
  have z : (0 : Int32).toInt = 0 := by decide
  omega
theorem qa_nb : narrow .boolean (.int 0) = .int 0 := rfl
theorem i_vc_drop {k : Nat} {u : SX} {v : SY} (I : i_Rel k u v) (hk : k + 6 ≤ 6) (v1 : Int32) : wpX_drop (fun r u' => wpY_drop (fun r' v' => r' = r ∧ i_Rel (k + 6) u' v') v v1) u v1 := by
  obtain ⟨hu, hv⟩ := qa_k I hk
  subst hu hv
  by_cases h0 : v1 < 0
  · exact br_t h0 (br_t rfl (br_t h0 (br_t rfl ⟨rfl, qa_tail⟩)))
  · by_cases h8 : 8 ≤ v1
    · exact br_f h0 (br_t h8 (br_t rfl (br_f h0 (br_t (qa_78 h8) (br_t rfl ⟨rfl, qa_tail⟩)))))
    · exact br_f h0 (br_f h8 (br_f (by decide) (br_f (by decide) (br_f (by decide) ⟨qa_in8 h0 h8, fun x ex => ⟨qa_in8 h0 h8, fun a ea => ⟨by rw [ex]; exact qa_nb, br_f h0 (br_f (qa_87 h8) (br_f (by decide) ⟨qa_in8 h0 h8, br_t rfl ⟨ex.symm, qa_tail⟩⟩))⟩⟩⟩))))
theorem i_vc_entry {k : Nat} {u : SX} {v : SY} (I : i_Rel k u v) (hk : k + 6 ≤ 6) (v1 : Int32) (v2 : Int32) : wpX_entry (fun r => wpY_entry (fun r' => r' = r ∧ i_Rel (k + 6) u v) v v1 v2) u v1 v2 := by
  obtain ⟨hu, hv⟩ := qa_k I hk
  subst hu hv
  by_cases h0 : v1 < 0
  · exact br_t h0 (br_t rfl (br_t h0 (br_t rfl ⟨rfl, qa_tail⟩)))
  by_cases h8 : 8 ≤ v1
  · exact br_f h0 (br_t h8 (br_t rfl (br_f h0 (br_t (qa_78 h8) (br_t rfl ⟨rfl, qa_tail⟩)))))
  by_cases k0 : v2 < 0
  · exact br_f h0 (br_f h8 (br_t k0 (br_t rfl (br_f h0 (br_f (qa_87 h8) (br_f (by decide) (br_t k0 (br_t rfl ⟨rfl, qa_tail⟩))))))))
  by_cases k8 : 8 ≤ v2
  · exact br_f h0 (br_f h8 (br_f k0 (br_t k8 (br_t rfl (br_f h0 (br_f (qa_87 h8) (br_f (by decide) (br_f k0 (br_t (qa_78 k8) (br_t rfl ⟨rfl, qa_tail⟩))))))))))
  · exact br_f h0 (br_f h8 (br_f k0 (br_f k8 (br_f (by decide) ⟨qa_in8 h0 h8, br_t rfl (br_f h0 (br_f (qa_87 h8) (br_f (by decide) (br_f k0 (br_f (qa_87 k8) (br_f (by decide) ⟨qa_in8 h0 h8, br_t rfl ⟨rfl, qa_tail⟩⟩))))))⟩))))
