/-! ===== an exception made and thrown: 'throw new E()' ===== -/
/-- words by their places: good ones, or ones kept by rows of their own -/
def th_chk (q : Cond × Nat) : Bool := lk_at q.1 q.2 && (goodWord q.1 || (fw_nest q.1 && q.1.onTables))
theorem th_chk_in {q : Cond × Nat} (h : th_chk q = true) : q.1 ∈ fw_AW ∨ (q.1 ∈ fw_NW ∧ q.1.onTables = true) := by
  rw [th_chk, Bool.and_eq_true, Bool.or_eq_true, Bool.and_eq_true] at h
  rcases h.2 with g | g
  · exact Or.inl (List.mem_filter.mpr ⟨lk_get_in (of_decide_eq_true h.1), g⟩)
  · exact Or.inr ⟨lk_at_in h.1 g.1, g.2⟩
def th_ws (own : String) (ik ic : Nat) (cls : String) (names : List String) : List Cond := Cond.classLink own ik cls :: Cond.initialized cls :: vx_at0 own ic cls names
def th_all (own : String) (ik ic : Nat) (cls : String) (names : List String) (pl : List Nat) : Bool :=
  ((th_ws own ik ic cls names).zip pl).all th_chk && decide ((th_ws own ik ic cls names).length = pl.length) && Bundle.fit cls && names.all Bundle.fit
theorem th_all_in {own : String} {ik ic : Nat} {cls : String} {names : List String} {pl : List Nat} (h : th_all own ik ic cls names pl = true) {w : Cond} (hw : w ∈ th_ws own ik ic cls names) : w ∈ fw_AW ∨ (w ∈ fw_NW ∧ w.onTables = true) := by
  simp only [th_all, Bool.and_eq_true, decide_eq_true_eq] at h
  obtain ⟨⟨⟨h1, h2⟩, -⟩, -⟩ := h
  obtain ⟨i, hi, e⟩ := List.mem_iff_getElem.mp hw
  have hz : i < ((th_ws own ik ic cls names).zip pl).length := by rw [List.length_zip, ← h2, Nat.min_self]; exact hi
  have h3 := List.all_eq_true.mp h1 _ (List.getElem_mem hz)
  have h4 := th_chk_in h3
  rw [List.getElem_zip] at h4
  dsimp only at h4
  rw [e] at h4
  exact h4
section THR
variable {p : Program} {l : Launch} {e : Env} {s : State} {m : MethodId} {args : Array Value} {below : List Frame} {meth : Method} {c : Code}
variable {D : va_G} {tc : Nat → ClassId} {ad : Nat → Nat} {kd : Nat → Nat × Nat} {N nL n : Nat} {own : String} {cc : ByteArray} {st : Nat → Nat} {S : fw_S} {Post : fw_O → fw_S → Prop} {lv : List (Nat × Value)} {pc sz mc fr lo : Nat}
theorem fw_throw0 (C0 : fw_C p s m args meth c D tc (fw_Af ad N sz) own cc nL) (hSt : fw_St st (fw_Af ad N sz) s s.heap) (hl : l.stackTraces = false) {cls : String} {names : List String} {ik ic : Nat} {pl : List Nat}
    (hw : th_all own ik ic cls names pl = true) (d0 : decode cc pc = .ok (.new ik, 3)) (d3 : decode cc (pc + 3) = .ok (.dup, 1)) (d4 : decode cc (pc + 4) = .ok (.invokespecial ic, 3)) (d7 : decode cc (pc + 7) = .ok (.athrow, 1))
    (ht : ∀ x ∈ c.exceptionTable.toList, False) (hn : n + 1 ≤ mc) (hfr : names.length + 3 < fr) (hlo : 13 * (names.length + 1) + 42 ≤ lo) (hpost : Post (.inr cls) S) :
    fw_W p l e (fw_rm fr lo mc) s m args below meth c (vx_MQ below (fw_Q D tc ad kd N st (fw_Af ad N sz) Post) (fw_X D tc ad kd N st (fw_Af ad N sz) Post) args s mc (6 * mc) (fw_Af ad N sz)) D tc ad kd N nL (fw_Af ad N sz) pc lv [] S n := by
  intro H locs ls cells slots h1 h2 hP hD hS hlv
  have hb : ∀ w ∈ th_ws own ik ic cls names, w.before args s = true := fun w hw' => by
    rcases th_all_in hw hw' with h | ⟨h, h'⟩
    · exact C0.2.2.2.2.1 w h
    · exact va_Nw.use h' (C0.2.2.2.2.2.2.2.2 w h)
  have hg : ∀ w ∈ th_ws own ik ic cls names, vx_ot w = true := fun w hw' => by
    rcases th_all_in hw hw' with h | ⟨h, h'⟩
    · rw [vx_ot, (List.mem_filter.mp h).2, Bool.or_true]
    · rw [vx_ot, h', Bool.true_or]
  have hfit := hw
  simp only [th_all, Bool.and_eq_true, List.all_eq_true] at hfit
  refine vx_throw0 (names := names) (ik := ik) (ic := ic) C0.1 C0.2.1 hl C0.2.2.2.1 hfit.1.2 hfit.2 (hb _ List.mem_cons_self) (hb _ (List.mem_cons_of_mem _ List.mem_cons_self)) (fun w hw' => hb w (List.mem_cons_of_mem _ (List.mem_cons_of_mem _ hw'))) hg
    hSt.2.1 hSt.2.2 hS (hlv.1.trans C0.2.2.1.symm) d0 d3 d4 d7 (fun x hx => (ht x hx).elim) hfr ?_ ?_ ?_ C0.2.2.2.2.2.2.1 ?_ hS.2.2 ?_ ?_
  · show (List.map (fun v : Value => v.category) []).sum + _ ≤ lo
    simp only [List.map_nil, List.sum_nil, Nat.zero_add]
    exact hlo
  · show cells + 1 ≤ mc
    omega
  · show slots + 6 ≤ 6 * mc
    omega
  · intro t hvm hsz hq
    refine ⟨⟨S, hpost, hP.kept (fun k q hk => hq _ (vx_lt hP hk)), va_K.moved hvm C0.2.2.2.2.2.1, hD, ?_⟩, Nat.le_trans hS.1 hsz, fun q h3 h4 => ?_⟩
    · exact hSt.go hvm (fun a h3 h4 => by rw [hq a (Nat.lt_of_lt_of_le h3 hS.1)]; exact hS.2.1 a h3 h4) (fun _ h => h)
    · rw [hq q (Nat.lt_of_lt_of_le h3 hS.1)]
      exact hS.2.1 q h3 h4
  · omega
  · omega
end THR
section THD
variable {ff : Nat → List md_T} {fl : fl_T} {C : ct_T} {Cs : List ct_T} {y : mt_T} {l : Launch} {D : va_G} {tc : Nat → ClassId} {ad : Nat → Nat} {kd : Nat → Nat × Nat} {N : Nat} {sm : Nat → Nat} {xs : List av_X} {S : fw_S}
variable {p : Program} {e : Env} {s : State} {m : MethodId} {args : Array Value} {below : List Frame} {meth : Method} {c : Code} {sz : Nat}
variable {pc n : Nat} {lv : List (Nat × Value)} {st : List Value} {S1 : fw_S} {α : List av_X} {A : as_T}
/-- 'throw new E()' at the end of a body by hand -/
theorem hd_throw0 (G : hd_C ff fl C Cs y l D tc ad kd N sm xs p s m args meth c sz) (H : as_in ad sm fl xs S C.2.2.2.2.2.1 α A lv [] S1) (i : Nat) {names : List String} {ik ic : Nat} {pl : List Nat}
    (hw : th_all y.1.cls ik ic (ex_nm i) names pl = true) (d0 : decode y.2.1 pc = .ok (.new ik, 3)) (d3 : decode y.2.1 (pc + 3) = .ok (.dup, 1)) (d4 : decode y.2.1 (pc + 4) = .ok (.invokespecial ic, 3)) (d7 : decode y.2.1 (pc + 7) = .ok (.athrow, 1))
    (hn : n + 1 ≤ C.2.2.2.2.2.2.2.2) (hfr : names.length + 3 < C.2.2.2.2.2.2.1) (hlo : 13 * (names.length + 1) + 42 ≤ C.2.2.2.2.2.2.2.1) (hc : C.2.2.2.2.1.any (q_cs A none (i + 2) C.2.1.length) = true) :
    hd_W fl C y l D tc ad kd N sm xs S p e s m args below meth c sz pc lv [] S1 n := by
  refine fw_throw0 G.1 G.2.1 G.2.2.1.2 hw d0 d3 d4 d7 G.2.2.2.2.1 hn hfr hlo ?_
  exact q_cs_in hc H G.2.2.2.2.2.1.symm (fun a _ => rfl) (fun _ h => by cases h)
end THD
