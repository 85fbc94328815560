/-! ===== which row of a table is held ===== -/
theorem hf_rt {ad sm : Nat → Nat} {fl : fl_T} {α0 α : List av_X} {S0 S : fw_S} {mod : List md_T} {A : as_T} {lv : List (Nat × Value)} {st : List Value} {c lo hi base rv iv n : Nat} (hrt : (c, lo, hi, base) ∈ wd_rt) (hk : (wd_kd c).1 = 3)
    (H : as_in ad sm fl α0 S0 mod α A lv st S) (hq : (rv, iv, n) ∈ A.2.2.2.1) (ec : nv α rv = (c : Int)) (h1 : (lo : Int) ≤ nv α iv) (h2 : nv α iv ≤ (hi : Int)) : nv α n = (base : Int) + (nv α iv - (lo : Int)) := by
  obtain ⟨k, j, x, e1, e2, e3, k0, j0, hx⟩ := H.2.2.2.2.1 _ hq
  dsimp only at e1 e2 e3
  rw [nv_at e1] at ec
  rw [nv_at e2] at h1 h2 ⊢
  rw [nv_at e3]
  dsimp only at ec h1 h2 ⊢
  have ek : k.toNat = c := by omega
  rw [ek] at hx
  unfold ct_X at hx
  rw [hk] at hx
  dsimp only at hx
  have hr := H.2.2.2.2.2.2.2.2.2.1.2 _ hrt j.toNat (by show lo ≤ j.toNat; omega) (by show j.toNat ≤ hi; omega)
  dsimp only at hr
  rw [hr] at hx
  cases hx
  show ((base + (j.toNat - lo) : Nat) : Int) = _
  omega
